section RE4
variable {G : ax_G} {d : Nat} {h : ax_H} {Q : ax_O → ax_H → Prop}
variable {ts : List CT} {l : Nat} {s : Nat × Nat} {cs : List Nat} {lb le : Nat → Nat} {hl : Int32} {D : DD}
theorem c_readStuff (ht : tsOK ts) (hs : sOKs ts s) (hD : DrD h D cs lb le hl) (hB : DrB D.1 cs lb le) (hR : Rd h ts l s) (hq : ∀ h', But h h' rdP → Rd h' ts l (mStuff ts D s).1 → DrD h' (mStuff ts D s).2 cs lb le hl → Q (.inl none) h') : X G (d + 3) mX2_readStuff 0 (ax_in 5 [.ref 88]) [] h Q := by
  have e71 := hD.1
  have e88 := hR.1
  have hS5 := hB.1
  unfold mStuff at hq
  dsimp only at hq
  generalize hs1 : sOpen ts (decide (nS D.1 < 5)) 5 s = s1 at hq
  generalize hs2 : sName ts D.1 D.2.2.1 D.2.2.2 s1 = s2 at hq
  generalize hs3 : sSkip ts 25 s2 = s3 at hq
  generalize hs4 : sNum ts 0 9 s3 = s4 at hq
  generalize hs5 : sSkip ts 26 s4 = s5 at hq
  generalize hs6 : sNum ts 0 9 s5 = s6 at hq
  generalize hs7 : sSkip ts 6 s6 = s7 at hq
  have o1 : sOKs ts s1 := hs1 ▸ sOpen_ok (by omega) ht hs
  have o2 : sOKs ts s2 := hs2 ▸ sName_ok ht o1
  have o3 : sOKs ts s3 := hs3 ▸ sSkip_ok ht o2
  have o4 : sOKs ts s4 := hs4 ▸ sNum_ok ht o3
  have o5 : sOKs ts s5 := hs5 ▸ sSkip_ok ht o4
  have o6 : sOKs ts s6 := hs6 ▸ sNum_ok ht o5
  have o7 : sOKs ts s7 := hs7 ▸ sSkip_ok ht o6
  have body : X G (d + 3) mX2_readStuff 17 [some (.ref 88), none, none, none, none] [.int (bI (decide (nS D.1 < 5))), .ref 88] h Q := by
    refine ax_iconst dX2_readStuff_17 (v := nI 5) (by decide) ?_
    refine ax_cV dX2_readStuff_18 mmX2_open lkX2_84 miX2_open msX2_open (ax_recv_of e88 rfl) rfl rfl (Nat.le_of_ble_eq_true rfl) (Nat.le_of_ble_eq_true rfl) rfl rfl (c_ropen (d := d + 1) (by omega) ht hs hR (fun h1 hb1 hR1 => ⟨_, rfl, ?_⟩))
    rw [hs1] at hR1
    have hD1 := hD.rd hb1
    have e88 := hR1.1
    refine ax_aload_n dX2_readStuff_21 rfl ?_
    refine ax_cV dX2_readStuff_22 mmX2_freshName lkX2_88 miX2_freshName msX2_freshName (ax_recv_of e88 rfl) rfl rfl (Nat.le_of_ble_eq_true rfl) (Nat.le_of_ble_eq_true rfl) rfl rfl (c_rname (d := d) ht o1 hD1 hB hR1 (fun h2 hb2 hR2 => ⟨_, rfl, ?_⟩))
    rw [hs2] at hR2
    have hD2 := hD1.rd hb2
    have e88 := hR2.1
    refine ax_lstore_n dX2_readStuff_25 (Nat.le_of_ble_eq_true rfl) ?_
    refine ax_aload_n dX2_readStuff_26 rfl ?_
    refine ax_gets (k := 25) dX2_readStuff_27 (by decide) slX2_92 (ax_tkZ (by decide) rfl) ?_
    refine ax_cV dX2_readStuff_30 mmX2_skip lkX2_95 miX2_skip msX2_skip (ax_recv_of e88 rfl) rfl rfl (Nat.le_of_ble_eq_true rfl) (Nat.le_of_ble_eq_true rfl) rfl rfl (c_rskip (d := d + 1) (by omega) ht o2 hR2 (fun h3 hb3 hR3 => ⟨_, rfl, ?_⟩))
    rw [hs3] at hR3
    have hD3 := hD2.rd hb3
    have e88 := hR3.1
    refine ax_aload_n dX2_readStuff_33 rfl ?_
    refine ax_iconst dX2_readStuff_34 (v := nI 0) (by decide) ?_
    refine ax_bipush dX2_readStuff_35 (v := nI 9) (by decide) ?_
    refine ax_cV dX2_readStuff_37 mmX2_numberWithin lkX2_99 miX2_numberWithin msX2_numberWithin (ax_recv_of e88 rfl) rfl rfl (Nat.le_of_ble_eq_true rfl) (Nat.le_of_ble_eq_true rfl) rfl rfl (c_rnum (d := d + 1) ht o3 hR3 (fun h4 hb4 hR4 => ⟨_, rfl, ?_⟩))
    rw [hs4] at hR4
    have hD4 := hD3.rd hb4
    have e88 := hR4.1
    refine ax_istore_n dX2_readStuff_40 (Nat.le_of_ble_eq_true rfl) ?_
    refine ax_aload_n dX2_readStuff_41 rfl ?_
    refine ax_gets (k := 26) dX2_readStuff_42 (by decide) slX2_103 (ax_tkZ (by decide) rfl) ?_
    refine ax_cV dX2_readStuff_45 mmX2_skip lkX2_95 miX2_skip msX2_skip (ax_recv_of e88 rfl) rfl rfl (Nat.le_of_ble_eq_true rfl) (Nat.le_of_ble_eq_true rfl) rfl rfl (c_rskip (d := d + 1) (by omega) ht o4 hR4 (fun h5 hb5 hR5 => ⟨_, rfl, ?_⟩))
    rw [hs5] at hR5
    have hD5 := hD4.rd hb5
    have e88 := hR5.1
    refine ax_aload_n dX2_readStuff_48 rfl ?_
    refine ax_iconst dX2_readStuff_49 (v := nI 0) (by decide) ?_
    refine ax_bipush dX2_readStuff_50 (v := nI 9) (by decide) ?_
    refine ax_cV dX2_readStuff_52 mmX2_numberWithin lkX2_99 miX2_numberWithin msX2_numberWithin (ax_recv_of e88 rfl) rfl rfl (Nat.le_of_ble_eq_true rfl) (Nat.le_of_ble_eq_true rfl) rfl rfl (c_rnum (d := d + 1) ht o5 hR5 (fun h6 hb6 hR6 => ⟨_, rfl, ?_⟩))
    rw [hs6] at hR6
    have hD6 := hD5.rd hb6
    have e88 := hR6.1
    refine ax_istore dX2_readStuff_55 (Nat.le_of_ble_eq_true rfl) ?_
    refine ax_aload_n dX2_readStuff_57 rfl ?_
    refine ax_gets (k := 6) dX2_readStuff_58 (by decide) slX2_106 (ax_tkZ (by decide) rfl) ?_
    refine ax_cV dX2_readStuff_61 mmX2_skip lkX2_95 miX2_skip msX2_skip (ax_recv_of e88 rfl) rfl rfl (Nat.le_of_ble_eq_true rfl) (Nat.le_of_ble_eq_true rfl) rfl rfl (c_rskip (d := d + 1) (by omega) ht o6 hR6 (fun h7 hb7 hR7 => ⟨_, rfl, ?_⟩))
    rw [hs7] at hR7
    have hD7 := hD6.rd hb7
    have e88 := hR7.1
    have e71 := hD7.1
    have hb : But h h7 rdP := ((((((hb1.tr hb2).tr hb3).tr hb4).tr hb5).tr hb6).tr hb7).wide (fun j z => Or.inr z)
    by_cases hc : s7.2 = 0
    · rw [if_pos hc] at hq
      obtain ⟨c6, -⟩ := sSkip_0 (hs7 ▸ hc)
      obtain ⟨c5, -, v5, -, w5⟩ := sNum_0 (by omega) (by omega) (hs6 ▸ c6)
      obtain ⟨c4, -⟩ := sSkip_0 (hs5 ▸ c5)
      obtain ⟨c3, -, v3, -, w3⟩ := sNum_0 (by omega) (by omega) (hs4 ▸ c4)
      obtain ⟨c2, -⟩ := sSkip_0 (hs3 ▸ c3)
      obtain ⟨c1, -⟩ := sName_0 (hs2 ▸ c2)
      obtain ⟨-, c0⟩ := sOpen_0 (by omega) (hs1 ▸ c1)
      rw [v3, v5]
      refine ax_aload_n dX2_readStuff_64 rfl ?_
      refine ax_getf dX2_readStuff_65 flX2_28 e88 rfl ?_
      refine ax_if_neF 82 dX2_readStuff_68 (by decide) (by rw [hc]; rfl) ?_
      refine ax_aload_n dX2_readStuff_71 rfl ?_
      refine ax_getf dX2_readStuff_72 flX2_24 e88 rfl ?_
      refine ax_lload_n dX2_readStuff_75 rfl ?_
      refine ax_iload_n dX2_readStuff_76 rfl ?_
      refine ax_iload dX2_readStuff_77 rfl ?_
      refine ax_cV dX2_readStuff_79 mmX1_addStuff lkX2_109 miX1_addStuff msX1_addStuff (ax_recv_of e71 rfl) rfl rfl (Nat.le_of_ble_eq_true rfl) (Nat.le_of_ble_eq_true rfl) rfl rfl (c_addStuff (d := d + 2) (of_decide_eq_true c0) hD7 (fun h8 hb8 hD8 => ⟨_, rfl, ?_⟩))
      exact ax_return dX2_readStuff_82 rfl (hq _ (hb.tr (hb8.wide (fun j z => Or.inl (by omega)))) (hR7.dr (hb8.wide (fun j z => by omega))) hD8)
    · rw [if_neg hc] at hq
      have o7' := o7.2
      refine ax_aload_n dX2_readStuff_64 rfl ?_
      refine ax_getf dX2_readStuff_65 flX2_28 e88 rfl ?_
      refine ax_if_neT 82 dX2_readStuff_68 (by decide) (fun q => hc ((nI_eq (by omega) (by omega)).mp q)) ?_
      exact ax_return dX2_readStuff_82 rfl (hq _ hb hR7 hD7)
  by_cases h7 : nS D.1 < 5
  · rw [show bI (decide (nS D.1 < 5)) = nI 1 from by rw [decide_eq_true h7]; rfl] at body
    refine ax_aload_n dX2_readStuff_0 rfl ?_
    refine ax_aload_n dX2_readStuff_1 rfl ?_
    refine ax_getf dX2_readStuff_2 flX2_24 e88 rfl ?_
    refine ax_getf dX2_readStuff_5 flX2_81 e71 rfl ?_
    refine ax_iconst dX2_readStuff_8 (v := nI 5) (by decide) ?_
    refine ax_icmp_geF 16 dX2_readStuff_9 (by decide) (nI_ge h7 (by omega)) ?_
    refine ax_iconst dX2_readStuff_12 (v := nI 1) (by decide) ?_
    refine ax_goto 17 dX2_readStuff_13 (by decide) ?_
    exact body
  · rw [show bI (decide (nS D.1 < 5)) = nI 0 from by rw [decide_eq_false h7]; rfl] at body
    refine ax_aload_n dX2_readStuff_0 rfl ?_
    refine ax_aload_n dX2_readStuff_1 rfl ?_
    refine ax_getf dX2_readStuff_2 flX2_24 e88 rfl ?_
    refine ax_getf dX2_readStuff_5 flX2_81 e71 rfl ?_
    refine ax_iconst dX2_readStuff_8 (v := nI 5) (by decide) ?_
    refine ax_icmp_geT 16 dX2_readStuff_9 (by decide) (nI_le (by omega) (by omega)) ?_
    refine ax_iconst dX2_readStuff_16 (v := nI 0) (by decide) ?_
    exact body
theorem c_readRoad (ht : tsOK ts) (hs : sOKs ts s) (hD : DrD h D cs lb le hl) (hB : DrB D.1 cs lb le) (hR : Rd h ts l s) (hq : ∀ h', But h h' rdP → Rd h' ts l (mRoad ts D s).1 → DrD h' (mRoad ts D s).2 cs lb le hl → Q (.inl none) h') : X G (d + 3) mX2_readRoad 0 (ax_in 5 [.ref 88]) [] h Q := by
  have e71 := hD.1
  have e88 := hR.1
  have hP7 := hB.2.1
  have hR10 := hB.2.2.1
  unfold mRoad at hq
  dsimp only at hq
  generalize hs1 : sOpen ts (decide (nR D.1 < 10)) 5 s = s1 at hq
  generalize hs2 : sPlace ts D.1 D.2.2.2 none s1 = s2 at hq
  generalize hs3 : sPlace ts D.1 D.2.2.2 (pOf ts D s1.1) s2 = s3 at hq
  generalize hs4 : sSkip ts 23 s3 = s4 at hq
  generalize hs5 : sNum ts 1 99 s4 = s5 at hq
  generalize hs6 : sSkip ts 24 s5 = s6 at hq
  generalize hs7 : sNum ts 0 999 s6 = s7 at hq
  generalize hs8 : sSkip ts 6 s7 = s8 at hq
  have o1 : sOKs ts s1 := hs1 ▸ sOpen_ok (by omega) ht hs
  have o2 : sOKs ts s2 := hs2 ▸ sPlace_ok ht o1
  have o3 : sOKs ts s3 := hs3 ▸ sPlace_ok ht o2
  have o4 : sOKs ts s4 := hs4 ▸ sSkip_ok ht o3
  have o5 : sOKs ts s5 := hs5 ▸ sNum_ok ht o4
  have o6 : sOKs ts s6 := hs6 ▸ sSkip_ok ht o5
  have o7 : sOKs ts s7 := hs7 ▸ sNum_ok ht o6
  have o8 : sOKs ts s8 := hs8 ▸ sSkip_ok ht o7
  have body : X G (d + 3) mX2_readRoad 18 [some (.ref 88), none, none, none, none] [.int (bI (decide (nR D.1 < 10))), .ref 88] h Q := by
    refine ax_iconst dX2_readRoad_18 (v := nI 5) (by decide) ?_
    refine ax_cV dX2_readRoad_19 mmX2_open lkX2_84 miX2_open msX2_open (ax_recv_of e88 rfl) rfl rfl (Nat.le_of_ble_eq_true rfl) (Nat.le_of_ble_eq_true rfl) rfl rfl (c_ropen (d := d + 1) (by omega) ht hs hR (fun h1 hb1 hR1 => ⟨_, rfl, ?_⟩))
    rw [hs1] at hR1
    have hD1 := hD.rd hb1
    have e88 := hR1.1
    refine ax_aload_n dX2_readRoad_22 rfl ?_
    refine ax_iconst dX2_readRoad_23 (v := -1) (by decide) ?_
    refine ax_cV dX2_readRoad_24 mmX2_placeOtherThan lkX2_123 miX2_placeOtherThan msX2_placeOtherThan (ax_recv_of e88 rfl) rfl rfl (Nat.le_of_ble_eq_true rfl) (Nat.le_of_ble_eq_true rfl) rfl rfl (c_rplace (d := d) (x := none) (fun j hj => by cases hj) ht o1 hD1 hB hR1 (fun h2 hb2 hR2 => ⟨_, rfl, ?_⟩))
    rw [hs2] at hR2
    have hD2 := hD1.rd hb2
    have e88 := hR2.1
    refine ax_istore_n dX2_readRoad_27 (Nat.le_of_ble_eq_true rfl) ?_
    refine ax_aload_n dX2_readRoad_28 rfl ?_
    refine ax_iload_n dX2_readRoad_29 rfl ?_
    refine ax_cV dX2_readRoad_30 mmX2_placeOtherThan lkX2_123 miX2_placeOtherThan msX2_placeOtherThan (ax_recv_of e88 rfl) rfl rfl (Nat.le_of_ble_eq_true rfl) (Nat.le_of_ble_eq_true rfl) rfl rfl (c_rplace (d := d) (x := pOf ts D s1.1) (fun j hj => by have := nmOf_lt hj; omega) ht o2 hD2 hB hR2 (fun h3 hb3 hR3 => ⟨_, rfl, ?_⟩))
    rw [hs3] at hR3
    have hD3 := hD2.rd hb3
    have e88 := hR3.1
    refine ax_istore_n dX2_readRoad_33 (Nat.le_of_ble_eq_true rfl) ?_
    refine ax_aload_n dX2_readRoad_34 rfl ?_
    refine ax_gets (k := 23) dX2_readRoad_35 (by decide) slX2_127 (ax_tkZ (by decide) rfl) ?_
    refine ax_cV dX2_readRoad_38 mmX2_skip lkX2_95 miX2_skip msX2_skip (ax_recv_of e88 rfl) rfl rfl (Nat.le_of_ble_eq_true rfl) (Nat.le_of_ble_eq_true rfl) rfl rfl (c_rskip (d := d + 1) (by omega) ht o3 hR3 (fun h4 hb4 hR4 => ⟨_, rfl, ?_⟩))
    rw [hs4] at hR4
    have hD4 := hD3.rd hb4
    have e88 := hR4.1
    refine ax_aload_n dX2_readRoad_41 rfl ?_
    refine ax_iconst dX2_readRoad_42 (v := nI 1) (by decide) ?_
    refine ax_bipush dX2_readRoad_43 (v := nI 99) (by decide) ?_
    refine ax_cV dX2_readRoad_45 mmX2_numberWithin lkX2_99 miX2_numberWithin msX2_numberWithin (ax_recv_of e88 rfl) rfl rfl (Nat.le_of_ble_eq_true rfl) (Nat.le_of_ble_eq_true rfl) rfl rfl (c_rnum (d := d + 1) ht o4 hR4 (fun h5 hb5 hR5 => ⟨_, rfl, ?_⟩))
    rw [hs5] at hR5
    have hD5 := hD4.rd hb5
    have e88 := hR5.1
    refine ax_istore_n dX2_readRoad_48 (Nat.le_of_ble_eq_true rfl) ?_
    refine ax_aload_n dX2_readRoad_49 rfl ?_
    refine ax_gets (k := 24) dX2_readRoad_50 (by decide) slX2_130 (ax_tkZ (by decide) rfl) ?_
    refine ax_cV dX2_readRoad_53 mmX2_skip lkX2_95 miX2_skip msX2_skip (ax_recv_of e88 rfl) rfl rfl (Nat.le_of_ble_eq_true rfl) (Nat.le_of_ble_eq_true rfl) rfl rfl (c_rskip (d := d + 1) (by omega) ht o5 hR5 (fun h6 hb6 hR6 => ⟨_, rfl, ?_⟩))
    rw [hs6] at hR6
    have hD6 := hD5.rd hb6
    have e88 := hR6.1
    refine ax_aload_n dX2_readRoad_56 rfl ?_
    refine ax_iconst dX2_readRoad_57 (v := nI 0) (by decide) ?_
    refine ax_sipush dX2_readRoad_58 (v := nI 999) (by decide) ?_
    refine ax_cV dX2_readRoad_61 mmX2_numberWithin lkX2_99 miX2_numberWithin msX2_numberWithin (ax_recv_of e88 rfl) rfl rfl (Nat.le_of_ble_eq_true rfl) (Nat.le_of_ble_eq_true rfl) rfl rfl (c_rnum (d := d + 1) ht o6 hR6 (fun h7 hb7 hR7 => ⟨_, rfl, ?_⟩))
    rw [hs7] at hR7
    have hD7 := hD6.rd hb7
    have e88 := hR7.1
    refine ax_istore dX2_readRoad_64 (Nat.le_of_ble_eq_true rfl) ?_
    refine ax_aload_n dX2_readRoad_66 rfl ?_
    refine ax_gets (k := 6) dX2_readRoad_67 (by decide) slX2_106 (ax_tkZ (by decide) rfl) ?_
    refine ax_cV dX2_readRoad_70 mmX2_skip lkX2_95 miX2_skip msX2_skip (ax_recv_of e88 rfl) rfl rfl (Nat.le_of_ble_eq_true rfl) (Nat.le_of_ble_eq_true rfl) rfl rfl (c_rskip (d := d + 1) (by omega) ht o7 hR7 (fun h8 hb8 hR8 => ⟨_, rfl, ?_⟩))
    rw [hs8] at hR8
    have hD8 := hD7.rd hb8
    have e88 := hR8.1
    have e71 := hD8.1
    have hb : But h h8 rdP := (((((((hb1.tr hb2).tr hb3).tr hb4).tr hb5).tr hb6).tr hb7).tr hb8).wide (fun j z => Or.inr z)
    by_cases hc : s8.2 = 0
    · rw [if_pos hc] at hq
      obtain ⟨c7, -⟩ := sSkip_0 (hs8 ▸ hc)
      obtain ⟨c6, -, v6, -, w6⟩ := sNum_0 (by omega) (by omega) (hs7 ▸ c7)
      obtain ⟨c5, -⟩ := sSkip_0 (hs6 ▸ c6)
      obtain ⟨c4, -, v4, -, w4⟩ := sNum_0 (by omega) (by omega) (hs5 ▸ c5)
      obtain ⟨c3, -⟩ := sSkip_0 (hs4 ▸ c4)
      obtain ⟨c2, -, p2, v2, -⟩ := sPlace_0 (hs3 ▸ c3)
      obtain ⟨c1, -, p1, v1, -⟩ := sPlace_0 (hs2 ▸ c2)
      obtain ⟨-, c0⟩ := sOpen_0 (by omega) (hs1 ▸ c1)
      rw [show pOf ts D s1.1 = some p1 from v1, show pOf ts D s2.1 = some p2 from v2] at hq
      rw [v4, v6, show nmOf D.2.2.2 (nP D.1) (vA ts s1.1) = some p1 from v1, show nmOf D.2.2.2 (nP D.1) (vA ts s2.1) = some p2 from v2]
      refine ax_aload_n dX2_readRoad_73 rfl ?_
      refine ax_getf dX2_readRoad_74 flX2_28 e88 rfl ?_
      refine ax_if_neF 92 dX2_readRoad_77 (by decide) (by rw [hc]; rfl) ?_
      refine ax_aload_n dX2_readRoad_80 rfl ?_
      refine ax_getf dX2_readRoad_81 flX2_24 e88 rfl ?_
      refine ax_iload_n dX2_readRoad_84 rfl ?_
      refine ax_iload_n dX2_readRoad_85 rfl ?_
      refine ax_iload_n dX2_readRoad_86 rfl ?_
      refine ax_iload dX2_readRoad_87 rfl ?_
      refine ax_cV dX2_readRoad_89 mmX1_addRoad lkX2_133 miX1_addRoad msX1_addRoad (ax_recv_of e71 rfl) rfl rfl (Nat.le_of_ble_eq_true rfl) (Nat.le_of_ble_eq_true rfl) rfl rfl (c_addRoad (d := d + 2) (of_decide_eq_true c0) hD8 (fun h9 hb9 hD9 => ⟨_, rfl, ?_⟩))
      exact ax_return dX2_readRoad_92 rfl (hq _ (hb.tr (hb9.wide (fun j z => Or.inl (by omega)))) (hR8.dr (hb9.wide (fun j z => by omega))) hD9)
    · rw [if_neg hc] at hq
      have o8' := o8.2
      refine ax_aload_n dX2_readRoad_73 rfl ?_
      refine ax_getf dX2_readRoad_74 flX2_28 e88 rfl ?_
      refine ax_if_neT 92 dX2_readRoad_77 (by decide) (fun q => hc ((nI_eq (by omega) (by omega)).mp q)) ?_
      exact ax_return dX2_readRoad_92 rfl (hq _ hb hR8 hD8)
  by_cases h7 : nR D.1 < 10
  · rw [show bI (decide (nR D.1 < 10)) = nI 1 from by rw [decide_eq_true h7]; rfl] at body
    refine ax_aload_n dX2_readRoad_0 rfl ?_
    refine ax_aload_n dX2_readRoad_1 rfl ?_
    refine ax_getf dX2_readRoad_2 flX2_24 e88 rfl ?_
    refine ax_getf dX2_readRoad_5 flX2_120 e71 rfl ?_
    refine ax_bipush dX2_readRoad_8 (v := nI 10) (by decide) ?_
    refine ax_icmp_geF 17 dX2_readRoad_10 (by decide) (nI_ge h7 (by omega)) ?_
    refine ax_iconst dX2_readRoad_13 (v := nI 1) (by decide) ?_
    refine ax_goto 18 dX2_readRoad_14 (by decide) ?_
    exact body
  · rw [show bI (decide (nR D.1 < 10)) = nI 0 from by rw [decide_eq_false h7]; rfl] at body
    refine ax_aload_n dX2_readRoad_0 rfl ?_
    refine ax_aload_n dX2_readRoad_1 rfl ?_
    refine ax_getf dX2_readRoad_2 flX2_24 e88 rfl ?_
    refine ax_getf dX2_readRoad_5 flX2_120 e71 rfl ?_
    refine ax_bipush dX2_readRoad_8 (v := nI 10) (by decide) ?_
    refine ax_icmp_geT 17 dX2_readRoad_10 (by decide) (nI_le (by omega) (by omega)) ?_
    refine ax_iconst dX2_readRoad_17 (v := nI 0) (by decide) ?_
    exact body
end RE4
