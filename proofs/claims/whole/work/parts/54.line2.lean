section LI3
variable {G : ax_G} {d : Nat} {h : ax_H} {Q : ax_O → ax_H → Prop}
/-- the reader's whole state: at and fault, the law, the draft's tables, its laws -/
abbrev RS : Type := (Nat × Nat) × Nat × DD × LD
def mLine (ts : List CT) (r : RS) : RS :=
  if kA ts r.1.1 = 15 then ((mStuff ts r.2.2.1 r.1).1, r.2.1, (mStuff ts r.2.2.1 r.1).2, r.2.2.2)
  else if kA ts r.1.1 = 16 then ((mPlace ts r.2.2.1 r.1).1, r.2.1, (mPlace ts r.2.2.1 r.1).2, r.2.2.2)
  else if kA ts r.1.1 = 17 then ((mRoad ts r.2.2.1 r.1).1, r.2.1, (mRoad ts r.2.2.1 r.1).2, r.2.2.2)
  else if kA ts r.1.1 = 18 then ((mTrade ts r.2.2.1 r.1).1, r.2.1, (mTrade ts r.2.2.1 r.1).2, r.2.2.2)
  else if kA ts r.1.1 = 20 then ((mLaw ts 0 r.2.2.2 r.1).1, 0, r.2.2.1, (mLaw ts 0 r.2.2.2 r.1).2)
  else if kA ts r.1.1 = 21 then ((mLaw ts 1 r.2.2.2 r.1).1, 1, r.2.2.1, (mLaw ts 1 r.2.2.2 r.1).2)
  else if kA ts r.1.1 = 22 then ((mLaw ts 2 r.2.2.2 r.1).1, 2, r.2.2.1, (mLaw ts 2 r.2.2.2 r.1).2)
  else (sFail ts 1 r.1, r.2)
/-- the reader and its draft stand so -/
def RIs (h : ax_H) (ts : List CT) (r : RS) : Prop := Rd h ts r.2.1 r.1 ∧ DrD h r.2.2.1 r.2.2.2.1 r.2.2.2.2.1 r.2.2.2.2.2.1 r.2.2.2.2.2.2
def rOK (ts : List CT) (r : RS) : Prop := sOKs ts r.1 ∧ DrB r.2.2.1.1 r.2.2.2.1 r.2.2.2.2.1 r.2.2.2.2.2.1
variable {ts : List CT} {r : RS}
theorem tk_ordv : ∀ k : Nat, k < 31 → tk_ord.getD k 0 = nI k := by decide +kernel
theorem tk_sw1 : ∀ k : Nat, k < 31 → (k = 15 ∨ k = 16 ∨ k = 17 ∨ k = 18 ∨ k = 20 ∨ k = 21 ∨ k = 22) ∨ tk_sw.getD k 0 = nI 0 := by decide +kernel
theorem tk_sw0 (k : Nat) (hk : k < 31) (h1 : k ≠ 15) (h2 : k ≠ 16) (h3 : k ≠ 17) (h4 : k ≠ 18) (h5 : k ≠ 20) (h6 : k ≠ 21) (h7 : k ≠ 22) : tk_sw.getD k 0 = nI 0 := (tk_sw1 k hk).resolve_left (by omega)
theorem c_readLine (ht : tsOK ts) (hN : tsN ts) (ho : rOK ts r) (hR : RIs h ts r) (hq : ∀ h', But h h' rdP → RIs h' ts (mLine ts r) → Q (.inl none) h') : X G (d + 39) mX2_readLine 0 (ax_in 1 [.ref 88]) [] h Q := by
  obtain ⟨hRd, hD⟩ := id hR
  obtain ⟨hs, hB⟩ := id ho
  have e88 := hRd.1
  have hk31 := (ht.2 _ hs.1).1
  unfold mLine at hq
  refine ax_gets (k := 33) dX2_readLine_0 (by decide) slX2_52 ax_swZ ?_
  refine ax_aload_n dX2_readLine_3 rfl ?_
  refine ax_getf dX2_readLine_4 flX2_15 e88 rfl ?_
  refine ax_cOrd (d' := d + 38) (r := kA ts r.1.1) dX2_readLine_7 rfl hk31 rfl (Nat.le_of_ble_eq_true rfl) rfl rfl ?_
  rw [tk_ordv _ hk31]
  refine ax_swO dX2_readLine_10 (ax_ix_nI (j := kA ts r.1.1) hk31 (by decide)) ?_
  by_cases h15 : kA ts r.1.1 = 15
  · rw [if_pos h15] at hq
    rw [h15]
    refine ax_tableIn 52 dX2_readLine_11 (by decide) (by decide) rfl (by decide) ?_
    refine ax_aload_n dX2_readLine_52 rfl ?_
    refine ax_cV dX2_readLine_53 mmX2_readStuff lkX2_62 miX2_readStuff msX2_readStuff (ax_recv_of e88 rfl) rfl rfl (Nat.le_of_ble_eq_true rfl) (Nat.le_of_ble_eq_true rfl) rfl rfl (c_readStuff (d := d + 35) ht hs hD hB hRd (fun h1 hb1 hR1 hD1 => ⟨_, rfl, ?_⟩))
    refine ax_goto 109 dX2_readLine_56 (by decide) ?_
    exact ax_return dX2_readLine_109 rfl (hq _ hb1 ⟨hR1, hD1⟩)
  rw [if_neg h15] at hq
  by_cases h16 : kA ts r.1.1 = 16
  · rw [if_pos h16] at hq
    rw [h16]
    refine ax_tableIn 59 dX2_readLine_11 (by decide) (by decide) rfl (by decide) ?_
    refine ax_aload_n dX2_readLine_59 rfl ?_
    refine ax_cV dX2_readLine_60 mmX2_readPlace lkX2_65 miX2_readPlace msX2_readPlace (ax_recv_of e88 rfl) rfl rfl (Nat.le_of_ble_eq_true rfl) (Nat.le_of_ble_eq_true rfl) rfl rfl (c_readPlace (d := d + 35) ht hs hD hB hRd (fun h1 hb1 hR1 hD1 => ⟨_, rfl, ?_⟩))
    refine ax_goto 109 dX2_readLine_63 (by decide) ?_
    exact ax_return dX2_readLine_109 rfl (hq _ hb1 ⟨hR1, hD1⟩)
  rw [if_neg h16] at hq
  by_cases h17 : kA ts r.1.1 = 17
  · rw [if_pos h17] at hq
    rw [h17]
    refine ax_tableIn 66 dX2_readLine_11 (by decide) (by decide) rfl (by decide) ?_
    refine ax_aload_n dX2_readLine_66 rfl ?_
    refine ax_cV dX2_readLine_67 mmX2_readRoad lkX2_68 miX2_readRoad msX2_readRoad (ax_recv_of e88 rfl) rfl rfl (Nat.le_of_ble_eq_true rfl) (Nat.le_of_ble_eq_true rfl) rfl rfl (c_readRoad (d := d + 35) ht hs hD hB hRd (fun h1 hb1 hR1 hD1 => ⟨_, rfl, ?_⟩))
    refine ax_goto 109 dX2_readLine_70 (by decide) ?_
    exact ax_return dX2_readLine_109 rfl (hq _ hb1 ⟨hR1, hD1⟩)
  rw [if_neg h17] at hq
  by_cases h18 : kA ts r.1.1 = 18
  · rw [if_pos h18] at hq
    rw [h18]
    refine ax_tableIn 73 dX2_readLine_11 (by decide) (by decide) rfl (by decide) ?_
    refine ax_aload_n dX2_readLine_73 rfl ?_
    refine ax_cV dX2_readLine_74 mmX2_readTrade lkX2_71 miX2_readTrade msX2_readTrade (ax_recv_of e88 rfl) rfl rfl (Nat.le_of_ble_eq_true rfl) (Nat.le_of_ble_eq_true rfl) rfl rfl (c_readTrade (d := d + 35) ht hs hD hB hRd (fun h1 hb1 hR1 hD1 => ⟨_, rfl, ?_⟩))
    refine ax_goto 109 dX2_readLine_77 (by decide) ?_
    exact ax_return dX2_readLine_109 rfl (hq _ hb1 ⟨hR1, hD1⟩)
  rw [if_neg h18] at hq
  by_cases h20 : kA ts r.1.1 = 20
  · rw [if_pos h20] at hq
    rw [h20]
    refine ax_tableIn 80 dX2_readLine_11 (by decide) (by decide) rfl (by decide) ?_
    refine ax_aload_n dX2_readLine_80 rfl ?_
    refine ax_iconst dX2_readLine_81 (v := nI 0) (by decide) ?_
    refine ax_cV dX2_readLine_82 mmX2_readLaw lkX2_74 miX2_readLaw msX2_readLaw (ax_recv_of e88 rfl) rfl rfl (Nat.le_of_ble_eq_true rfl) (Nat.le_of_ble_eq_true rfl) rfl rfl (c_readLaw (d := d) (w := 0) (L := r.2.2.2) (by omega) ht hN hs hD hB hRd (fun h1 hb1 hR1 hD1 => ⟨_, rfl, ?_⟩))
    refine ax_goto 109 dX2_readLine_85 (by decide) ?_
    exact ax_return dX2_readLine_109 rfl (hq _ hb1 ⟨hR1, hD1⟩)
  rw [if_neg h20] at hq
  by_cases h21 : kA ts r.1.1 = 21
  · rw [if_pos h21] at hq
    rw [h21]
    refine ax_tableIn 88 dX2_readLine_11 (by decide) (by decide) rfl (by decide) ?_
    refine ax_aload_n dX2_readLine_88 rfl ?_
    refine ax_iconst dX2_readLine_89 (v := nI 1) (by decide) ?_
    refine ax_cV dX2_readLine_90 mmX2_readLaw lkX2_74 miX2_readLaw msX2_readLaw (ax_recv_of e88 rfl) rfl rfl (Nat.le_of_ble_eq_true rfl) (Nat.le_of_ble_eq_true rfl) rfl rfl (c_readLaw (d := d) (w := 1) (L := r.2.2.2) (by omega) ht hN hs hD hB hRd (fun h1 hb1 hR1 hD1 => ⟨_, rfl, ?_⟩))
    refine ax_goto 109 dX2_readLine_93 (by decide) ?_
    exact ax_return dX2_readLine_109 rfl (hq _ hb1 ⟨hR1, hD1⟩)
  rw [if_neg h21] at hq
  by_cases h22 : kA ts r.1.1 = 22
  · rw [if_pos h22] at hq
    rw [h22]
    refine ax_tableIn 96 dX2_readLine_11 (by decide) (by decide) rfl (by decide) ?_
    refine ax_aload_n dX2_readLine_96 rfl ?_
    refine ax_iconst dX2_readLine_97 (v := nI 2) (by decide) ?_
    refine ax_cV dX2_readLine_98 mmX2_readLaw lkX2_74 miX2_readLaw msX2_readLaw (ax_recv_of e88 rfl) rfl rfl (Nat.le_of_ble_eq_true rfl) (Nat.le_of_ble_eq_true rfl) rfl rfl (c_readLaw (d := d) (w := 2) (L := r.2.2.2) (by omega) ht hN hs hD hB hRd (fun h1 hb1 hR1 hD1 => ⟨_, rfl, ?_⟩))
    refine ax_goto 109 dX2_readLine_101 (by decide) ?_
    exact ax_return dX2_readLine_109 rfl (hq _ hb1 ⟨hR1, hD1⟩)
  rw [if_neg h22] at hq
  rw [tk_sw0 _ hk31 h15 h16 h17 h18 h20 h21 h22]
  refine ax_tableOut 104 dX2_readLine_11 (Or.inl (by decide)) (by decide) ?_
  refine ax_aload_n dX2_readLine_104 rfl ?_
  refine ax_iconst dX2_readLine_105 (v := nI 1) (by decide) ?_
  refine ax_cV dX2_readLine_106 mmX2_fail lkX2_78 miX2_fail msX2_fail (ax_recv_of e88 rfl) rfl rfl (Nat.le_of_ble_eq_true rfl) (Nat.le_of_ble_eq_true rfl) rfl rfl (c_rfail (d := d + 38) (k := 1) (by omega) ht hs hRd (fun h1 hb1 hR1 => ⟨_, rfl, ?_⟩))
  exact ax_return dX2_readLine_109 rfl (hq _ (hb1.wide (fun j z => Or.inr z)) ⟨hR1, hD.rd hb1⟩)
end LI3
