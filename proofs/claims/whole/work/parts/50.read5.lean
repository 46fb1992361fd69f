section RE5
variable {G : ax_G} {d : Nat} {h : ax_H} {Q : ax_O → ax_H → Prop}
variable {ts : List CT} {l : Nat} {s : Nat × Nat} {cs : List Nat} {lb le : Nat → Nat} {hl : Int32} {D : DD}
theorem c_readTrade (ht : tsOK ts) (hs : sOKs ts s) (hD : DrD h D cs lb le hl) (hB : DrB D.1 cs lb le) (hR : Rd h ts l s) (hq : ∀ h', But h h' rdP → Rd h' ts l (mTrade ts D s).1 → DrD h' (mTrade ts D s).2 cs lb le hl → Q (.inl none) h') : X G (d + 3) mX2_readTrade 0 (ax_in 5 [.ref 88]) [] h Q := by
  have e71 := hD.1
  have e80 := hD.2.2.2.2.2.2.2.2.2.1.1
  have e88 := hR.1
  have hP7 := hB.2.1
  have hS5 := hB.1
  have hT6 := hB.2.2.2.1
  unfold mTrade at hq
  dsimp only at hq
  generalize hs1 : sOpen ts (decide (nT D.1 < 6)) 5 s = s1 at hq
  generalize hs2 : sPlace ts D.1 D.2.2.2 none s1 = s2 at hq
  generalize hs3 : sPlace ts D.1 D.2.2.2 (pOf ts D s1.1) s2 = s3 at hq
  generalize hs4 : sSkip ts 19 s3 = s4 at hq
  generalize hs5 : sStuff ts D.1 D.2.2.1 s4 = s5 at hq
  generalize hs6 : sSkip ts 27 s5 = s6 at hq
  generalize hs7 : sNum ts 1 999 s6 = s7 at hq
  generalize hs8 : sSkip ts 6 s7 = s8 at hq
  have o1 : sOKs ts s1 := hs1 ▸ sOpen_ok (by omega) ht hs
  have o2 : sOKs ts s2 := hs2 ▸ sPlace_ok ht o1
  have o3 : sOKs ts s3 := hs3 ▸ sPlace_ok ht o2
  have o4 : sOKs ts s4 := hs4 ▸ sSkip_ok ht o3
  have o5 : sOKs ts s5 := hs5 ▸ sStuff_ok ht o4
  have o6 : sOKs ts s6 := hs6 ▸ sSkip_ok ht o5
  have o7 : sOKs ts s7 := hs7 ▸ sNum_ok ht o6
  have o8 : sOKs ts s8 := hs8 ▸ sSkip_ok ht o7
  have body : X G (d + 3) mX2_readTrade 21 [some (.ref 88), none, none, none, none] [.int (bI (decide (nT D.1 < 6))), .ref 88] h Q := by
    refine ax_iconst dX2_readTrade_21 (v := nI 5) (by decide) ?_
    refine ax_cV dX2_readTrade_22 mmX2_open lkX2_84 miX2_open msX2_open (ax_recv_of e88 rfl) rfl rfl (Nat.le_of_ble_eq_true rfl) (Nat.le_of_ble_eq_true rfl) rfl rfl (c_ropen (d := d + 1) (by omega) ht hs hR (fun h1 hb1 hR1 => ⟨_, rfl, ?_⟩))
    rw [hs1] at hR1
    have hD1 := hD.rd hb1
    have e88 := hR1.1
    refine ax_aload_n dX2_readTrade_25 rfl ?_
    refine ax_iconst dX2_readTrade_26 (v := -1) (by decide) ?_
    refine ax_cV dX2_readTrade_27 mmX2_placeOtherThan lkX2_123 miX2_placeOtherThan msX2_placeOtherThan (ax_recv_of e88 rfl) rfl rfl (Nat.le_of_ble_eq_true rfl) (Nat.le_of_ble_eq_true rfl) rfl rfl (c_rplace (d := d) (x := none) (fun j hj => by cases hj) ht o1 hD1 hB hR1 (fun h2 hb2 hR2 => ⟨_, rfl, ?_⟩))
    rw [hs2] at hR2
    have hD2 := hD1.rd hb2
    have e88 := hR2.1
    refine ax_istore_n dX2_readTrade_30 (Nat.le_of_ble_eq_true rfl) ?_
    refine ax_aload_n dX2_readTrade_31 rfl ?_
    refine ax_iload_n dX2_readTrade_32 rfl ?_
    refine ax_cV dX2_readTrade_33 mmX2_placeOtherThan lkX2_123 miX2_placeOtherThan msX2_placeOtherThan (ax_recv_of e88 rfl) rfl rfl (Nat.le_of_ble_eq_true rfl) (Nat.le_of_ble_eq_true rfl) rfl rfl (c_rplace (d := d) (x := pOf ts D s1.1) (fun j hj => by have := nmOf_lt hj; omega) ht o2 hD2 hB hR2 (fun h3 hb3 hR3 => ⟨_, rfl, ?_⟩))
    rw [hs3] at hR3
    have hD3 := hD2.rd hb3
    have e88 := hR3.1
    refine ax_istore_n dX2_readTrade_36 (Nat.le_of_ble_eq_true rfl) ?_
    refine ax_aload_n dX2_readTrade_37 rfl ?_
    refine ax_gets (k := 19) dX2_readTrade_38 (by decide) slX2_146 (ax_tkZ (by decide) rfl) ?_
    refine ax_cV dX2_readTrade_41 mmX2_skip lkX2_95 miX2_skip msX2_skip (ax_recv_of e88 rfl) rfl rfl (Nat.le_of_ble_eq_true rfl) (Nat.le_of_ble_eq_true rfl) rfl rfl (c_rskip (d := d + 1) (by omega) ht o3 hR3 (fun h4 hb4 hR4 => ⟨_, rfl, ?_⟩))
    rw [hs4] at hR4
    have hD4 := hD3.rd hb4
    have e88 := hR4.1
    refine ax_aload_n dX2_readTrade_44 rfl ?_
    refine ax_cV dX2_readTrade_45 mmX2_stuffHere lkX2_149 miX2_stuffHere msX2_stuffHere (ax_recv_of e88 rfl) rfl rfl (Nat.le_of_ble_eq_true rfl) (Nat.le_of_ble_eq_true rfl) rfl rfl (c_rstuff (d := d) ht o4 hD4 hB hR4 (fun h5 hb5 hR5 => ⟨_, rfl, ?_⟩))
    rw [hs5] at hR5
    have hD5 := hD4.rd hb5
    have e88 := hR5.1
    refine ax_istore_n dX2_readTrade_48 (Nat.le_of_ble_eq_true rfl) ?_
    refine ax_aload_n dX2_readTrade_49 rfl ?_
    refine ax_gets (k := 27) dX2_readTrade_50 (by decide) slX2_152 (ax_tkZ (by decide) rfl) ?_
    refine ax_cV dX2_readTrade_53 mmX2_skip lkX2_95 miX2_skip msX2_skip (ax_recv_of e88 rfl) rfl rfl (Nat.le_of_ble_eq_true rfl) (Nat.le_of_ble_eq_true rfl) rfl rfl (c_rskip (d := d + 1) (by omega) ht o5 hR5 (fun h6 hb6 hR6 => ⟨_, rfl, ?_⟩))
    rw [hs6] at hR6
    have hD6 := hD5.rd hb6
    have e88 := hR6.1
    refine ax_aload_n dX2_readTrade_56 rfl ?_
    refine ax_iconst dX2_readTrade_57 (v := nI 1) (by decide) ?_
    refine ax_sipush dX2_readTrade_58 (v := nI 999) (by decide) ?_
    refine ax_cV dX2_readTrade_61 mmX2_numberWithin lkX2_99 miX2_numberWithin msX2_numberWithin (ax_recv_of e88 rfl) rfl rfl (Nat.le_of_ble_eq_true rfl) (Nat.le_of_ble_eq_true rfl) rfl rfl (c_rnum (d := d + 1) ht o6 hR6 (fun h7 hb7 hR7 => ⟨_, rfl, ?_⟩))
    rw [hs7] at hR7
    have hD7 := hD6.rd hb7
    have e88 := hR7.1
    refine ax_istore dX2_readTrade_64 (Nat.le_of_ble_eq_true rfl) ?_
    refine ax_aload_n dX2_readTrade_66 rfl ?_
    refine ax_gets (k := 6) dX2_readTrade_67 (by decide) slX2_106 (ax_tkZ (by decide) rfl) ?_
    refine ax_cV dX2_readTrade_70 mmX2_skip lkX2_95 miX2_skip msX2_skip (ax_recv_of e88 rfl) rfl rfl (Nat.le_of_ble_eq_true rfl) (Nat.le_of_ble_eq_true rfl) rfl rfl (c_rskip (d := d + 1) (by omega) ht o7 hR7 (fun h8 hb8 hR8 => ⟨_, rfl, ?_⟩))
    rw [hs8] at hR8
    have hD8 := hD7.rd hb8
    have e88 := hR8.1
    have e71 := hD8.1
    have hT8 := hD8.2.2.2.2.2.2.2.2.2.1
    have e80 := hT8.1
    have hb : But h h8 rdP := (((((((hb1.tr hb2).tr hb3).tr hb4).tr hb5).tr hb6).tr hb7).tr hb8).wide (fun j z => Or.inr z)
    by_cases hc : s8.2 = 0
    · rw [if_pos hc] at hq
      obtain ⟨c7, -⟩ := sSkip_0 (hs8 ▸ hc)
      obtain ⟨c6, -, v6, -, w6⟩ := sNum_0 (by omega) (by omega) (hs7 ▸ c7)
      obtain ⟨c5, -⟩ := sSkip_0 (hs6 ▸ c6)
      obtain ⟨c4, -, p4, v4, -⟩ := sStuff_0 (hs5 ▸ c5)
      obtain ⟨c3, -⟩ := sSkip_0 (hs4 ▸ c4)
      obtain ⟨c2, -, p2, v2, -⟩ := sPlace_0 (hs3 ▸ c3)
      obtain ⟨c1, -, p1, v1, -⟩ := sPlace_0 (hs2 ▸ c2)
      obtain ⟨-, c0⟩ := sOpen_0 (by omega) (hs1 ▸ c1)
      rw [show pOf ts D s1.1 = some p1 from v1, show pOf ts D s2.1 = some p2 from v2, v4] at hq
      rw [v6, v4, show nmOf D.2.2.2 (nP D.1) (vA ts s1.1) = some p1 from v1, show nmOf D.2.2.2 (nP D.1) (vA ts s2.1) = some p2 from v2]
      refine ax_aload_n dX2_readTrade_73 rfl ?_
      refine ax_getf dX2_readTrade_74 flX2_28 e88 rfl ?_
      refine ax_if_neF 95 dX2_readTrade_77 (by decide) (by rw [hc]; rfl) ?_
      refine ax_aload_n dX2_readTrade_80 rfl ?_
      refine ax_getf dX2_readTrade_81 flX2_24 e88 rfl ?_
      refine ax_getf dX2_readTrade_84 flX2_137 e71 rfl ?_
      refine ax_iload_n dX2_readTrade_87 rfl ?_
      refine ax_iload_n dX2_readTrade_88 rfl ?_
      refine ax_iload_n dX2_readTrade_89 rfl ?_
      refine ax_iload dX2_readTrade_90 rfl ?_
      refine ax_cV dX2_readTrade_92 mmX8_add lkX2_155 miX8_add msX8_add (ax_recv_of e80 rfl) rfl rfl (Nat.le_of_ble_eq_true rfl) (Nat.le_of_ble_eq_true rfl) rfl rfl (c_trAdd (d := d + 2) (of_decide_eq_true c0) hT8 (fun h9 hb9 hT9 => ⟨_, rfl, ?_⟩))
      have kp : ∀ j, (j < 80 ∨ 84 < j) → h9.2.2 j = h8.2.2 j := fun j z => hb9.2.2 j (by omega)
      obtain ⟨-, ⟨f1, e1, q1⟩, ⟨f2, e2, q2⟩, a1, a2, a3, a4, a5, a6, -, ⟨C, e3, q3⟩, a8, a9, a10⟩ := id hD8
      exact ax_return dX2_readTrade_95 rfl (hq _ (hb.tr (hb9.wide (fun j z => Or.inl (by omega)))) (hR8.dr (hb9.wide (fun j z => by omega))) ⟨(kp _ (by omega)).trans e71, ⟨f1, (kp _ (by omega)).trans e1, q1⟩, ⟨f2, (kp _ (by omega)).trans e2, q2⟩, a1.kept (kp _ (by omega)), a2.kept (kp _ (by omega)), a3.kept (kp _ (by omega)), a4.kept (kp _ (by omega)), a5.kept (kp _ (by omega)), a6.kept (kp _ (by omega)), hT9, ⟨C, (kp _ (by omega)).trans e3, q3⟩, a8.kept (kp _ (by omega)), a9.kept (kp _ (by omega)), a10⟩)
    · rw [if_neg hc] at hq
      have o8' := o8.2
      refine ax_aload_n dX2_readTrade_73 rfl ?_
      refine ax_getf dX2_readTrade_74 flX2_28 e88 rfl ?_
      refine ax_if_neT 95 dX2_readTrade_77 (by decide) (fun q => hc ((nI_eq (by omega) (by omega)).mp q)) ?_
      exact ax_return dX2_readTrade_95 rfl (hq _ hb hR8 hD8)
  by_cases h7 : nT D.1 < 6
  · rw [show bI (decide (nT D.1 < 6)) = nI 1 from by rw [decide_eq_true h7]; rfl] at body
    refine ax_aload_n dX2_readTrade_0 rfl ?_
    refine ax_aload_n dX2_readTrade_1 rfl ?_
    refine ax_getf dX2_readTrade_2 flX2_24 e88 rfl ?_
    refine ax_getf dX2_readTrade_5 flX2_137 e71 rfl ?_
    refine ax_getf dX2_readTrade_8 flX2_141 e80 rfl ?_
    refine ax_bipush dX2_readTrade_11 (v := nI 6) (by decide) ?_
    refine ax_icmp_geF 20 dX2_readTrade_13 (by decide) (nI_ge h7 (by omega)) ?_
    refine ax_iconst dX2_readTrade_16 (v := nI 1) (by decide) ?_
    refine ax_goto 21 dX2_readTrade_17 (by decide) ?_
    exact body
  · rw [show bI (decide (nT D.1 < 6)) = nI 0 from by rw [decide_eq_false h7]; rfl] at body
    refine ax_aload_n dX2_readTrade_0 rfl ?_
    refine ax_aload_n dX2_readTrade_1 rfl ?_
    refine ax_getf dX2_readTrade_2 flX2_24 e88 rfl ?_
    refine ax_getf dX2_readTrade_5 flX2_137 e71 rfl ?_
    refine ax_getf dX2_readTrade_8 flX2_141 e80 rfl ?_
    refine ax_bipush dX2_readTrade_11 (v := nI 6) (by decide) ?_
    refine ax_icmp_geT 20 dX2_readTrade_13 (by decide) (nI_le (by omega) (by omega)) ?_
    refine ax_iconst dX2_readTrade_20 (v := nI 0) (by decide) ?_
    exact body
end RE5
