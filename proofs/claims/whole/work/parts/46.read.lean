/-! ===== Reader: its small steps, as a machine over (at, fault) ===== -/
section RE
variable {G : ax_G} {d : Nat} {h : ax_H} {Q : ax_O → ax_H → Prop}
abbrev kA (ts : List CT) (a : Nat) : Nat := (ctAt ts a).1
abbrev pA (ts : List CT) (a : Nat) : Nat := (ctAt ts a).2.1
abbrev vA (ts : List CT) (a : Nat) : Int64 := (ctAt ts a).2.2
def sFail (ts : List CT) (k : Nat) (s : Nat × Nat) : Nat × Nat := if s.2 = 0 then (s.1, k + 16 * pA ts s.1) else s
def sStep (ts : List CT) (s : Nat × Nat) : Nat × Nat := if s.2 = 0 ∧ s.1 + 1 < ts.length then (s.1 + 1, s.2) else s
def tsOK (ts : List CT) : Prop := ts.length ≤ 1001 ∧ ∀ i, i < ts.length → kA ts i < 31 ∧ pA ts i ≤ 1000
def sOKs (ts : List CT) (s : Nat × Nat) : Prop := s.1 < ts.length ∧ s.2 ≤ 20000
/-- the reader stands at s, reading law l -/
def Rd (h : ax_H) (ts : List CT) (l : Nat) (s : Nat × Nat) : Prop := h.2.2 88 = some (eRd (kA ts s.1) (nI s.1) (nI l) (nI s.2)) ∧ TkP h ts
theorem Rd.kept {h' : ax_H} {ts : List CT} {l : Nat} {s : Nat × Nat} (a : Rd h ts l s) (hk : ∀ j, 67 ≤ j → j ≤ 70 ∨ j = 88 → h'.2.2 j = h.2.2 j) : Rd h' ts l s := ⟨(hk _ (by omega) (by omega)).trans a.1, a.2.kept (fun j z1 z2 => hk j z1 (Or.inl z2))⟩
theorem sFail_ok {ts : List CT} {k : Nat} {s : Nat × Nat} (hk : k ≤ 5) (ht : tsOK ts) (hs : sOKs ts s) : sOKs ts (sFail ts k s) := by
  unfold sFail
  split
  · have := (ht.2 _ hs.1).2
    exact ⟨hs.1, by show k + 16 * pA ts s.1 ≤ 20000; omega⟩
  · exact hs
theorem sStep_ok {ts : List CT} {s : Nat × Nat} (hs : sOKs ts s) : sOKs ts (sStep ts s) := by
  unfold sStep
  split
  · rename_i hc; exact ⟨hc.2, hs.2⟩
  · exact hs
variable {ts : List CT} {l : Nat} {s : Nat × Nat}
theorem c_rfail {k : Nat} (hk : k ≤ 5) (ht : tsOK ts) (hs : sOKs ts s) (hR : Rd h ts l s) (hq : ∀ h', But h h' (fun j => j = 88) → Rd h' ts l (sFail ts k s) → Q (.inl none) h') : X G d mX2_fail 0 (ax_in 2 [.ref 88, .int (nI k)]) [] h Q := by
  obtain ⟨e88, e67, g1, ⟨fp, e69, qp⟩, g3⟩ := id hR
  have hs1 := hs.1
  have hs2 := hs.2
  have ht1 := ht.1
  have hp := (ht.2 _ hs1).2
  by_cases hc : s.2 = 0
  · have es : sFail ts k s = (s.1, k + 16 * pA ts s.1) := if_pos hc
    rw [es] at hq
    refine ax_aload_n dX2_fail_0 rfl ?_
    refine ax_getf dX2_fail_1 flX2_28 e88 rfl ?_
    refine ax_if_neF 28 dX2_fail_4 (by decide) (by rw [hc]; rfl) ?_
    refine ax_aload_n dX2_fail_7 rfl ?_
    refine ax_iload_n dX2_fail_8 rfl ?_
    refine ax_bipush dX2_fail_9 (v := nI 16) (by decide) ?_
    refine ax_aload_n dX2_fail_11 rfl ?_
    refine ax_getf dX2_fail_12 flX2_20 e88 rfl ?_
    refine ax_getf dX2_fail_15 flX2_223 e67 rfl ?_
    refine ax_aload_n dX2_fail_18 rfl ?_
    refine ax_getf dX2_fail_19 flX2_32 e88 rfl ?_
    refine ax_iald dX2_fail_22 e69 (ax_ix_nI (j := s.1) (by omega) (by decide)) ?_
    rw [qp _ hs1]
    refine ax_imul dX2_fail_23 ?_
    refine ax_iadd dX2_fail_24 ?_
    refine ax_putf dX2_fail_25 flX2_28 e88 (Nat.le_of_ble_eq_true rfl) (fun _ => ⟨rfl, rfl⟩) ?_
    rw [pk_mul, nI_add]
    exact ax_return dX2_fail_28 rfl (hq _ (But.rf.wr rfl) ⟨ax_wr_eq, hR.2.kept (fun j z1 z2 => ax_wr_ne (by omega))⟩)
  · have es : sFail ts k s = s := if_neg hc
    rw [es] at hq
    refine ax_aload_n dX2_fail_0 rfl ?_
    refine ax_getf dX2_fail_1 flX2_28 e88 rfl ?_
    refine ax_if_neT 28 dX2_fail_4 (by decide) (fun q => hc ((nI_eq (by omega) (by omega)).mp q)) ?_
    exact ax_return dX2_fail_28 rfl (hq _ But.rf hR)
theorem c_rstep (ht : tsOK ts) (hs : sOKs ts s) (hR : Rd h ts l s) (hq : ∀ h', But h h' (fun j => j = 88) → Rd h' ts l (sStep ts s) → Q (.inl none) h') : X G d mX2_step 0 (ax_in 1 [.ref 88]) [] h Q := by
  obtain ⟨e88, e67, ⟨fk, e68, qk⟩, g2, g3⟩ := id hR
  have hs1 := hs.1
  have hs2 := hs.2
  have ht1 := ht.1
  by_cases hc : s.2 = 0
  · by_cases hd : s.1 + 1 < ts.length
    · have es : sStep ts s = (s.1 + 1, s.2) := if_pos ⟨hc, hd⟩
      rw [es] at hq
      refine ax_aload_n dX2_step_0 rfl ?_
      refine ax_getf dX2_step_1 flX2_28 e88 rfl ?_
      refine ax_if_neF 49 dX2_step_4 (by decide) (by rw [hc]; rfl) ?_
      refine ax_aload_n dX2_step_7 rfl ?_
      refine ax_getf dX2_step_8 flX2_32 e88 rfl ?_
      refine ax_iconst dX2_step_11 (v := nI 1) (by decide) ?_
      refine ax_iadd dX2_step_12 ?_
      refine ax_aload_n dX2_step_13 rfl ?_
      refine ax_getf dX2_step_14 flX2_20 e88 rfl ?_
      refine ax_getf dX2_step_17 flX2_222 e67 rfl ?_
      rw [nI_add]
      refine ax_icmp_geF 49 dX2_step_20 (by decide) (nI_ge hd (by omega)) ?_
      refine ax_aload_n dX2_step_23 rfl ?_
      refine ax_dup dX2_step_24 rfl ?_
      refine ax_getf dX2_step_25 flX2_32 e88 rfl ?_
      refine ax_iconst dX2_step_28 (v := nI 1) (by decide) ?_
      refine ax_iadd dX2_step_29 ?_
      refine ax_putf dX2_step_30 flX2_32 e88 (Nat.le_of_ble_eq_true rfl) (fun _ => ⟨rfl, rfl⟩) ?_
      refine ax_aload_n dX2_step_33 rfl ?_
      refine ax_aload_n dX2_step_34 rfl ?_
      refine ax_getf dX2_step_35 flX2_20 ax_wr_eq rfl ?_
      refine ax_getf dX2_step_38 flX2_35 ((ax_wr_ne (by decide)).trans (e67)) rfl ?_
      refine ax_aload_n dX2_step_41 rfl ?_
      refine ax_getf dX2_step_42 flX2_32 ax_wr_eq rfl ?_
      rw [nI_add]
      refine ax_aald (v := .ref (kA ts (s.1 + 1))) dX2_step_45 ((ax_wr_ne (by decide)).trans e68) (by decide) (ax_ix_nI (j := s.1 + 1) (by omega) (by decide)) (by rw [qk _ hd]; rfl) ?_
      refine ax_putf dX2_step_46 flX2_15 ax_wr_eq (Nat.le_of_ble_eq_true rfl) (fun _ => ⟨rfl, rfl⟩) ?_
      rw [ax_wr_wr]
      exact ax_return dX2_step_49 rfl (hq _ (But.rf.wr rfl) ⟨ax_wr_eq, hR.2.kept (fun j z1 z2 => ax_wr_ne (by omega))⟩)
    · have es : sStep ts s = s := if_neg (fun q => hd q.2)
      rw [es] at hq
      refine ax_aload_n dX2_step_0 rfl ?_
      refine ax_getf dX2_step_1 flX2_28 e88 rfl ?_
      refine ax_if_neF 49 dX2_step_4 (by decide) (by rw [hc]; rfl) ?_
      refine ax_aload_n dX2_step_7 rfl ?_
      refine ax_getf dX2_step_8 flX2_32 e88 rfl ?_
      refine ax_iconst dX2_step_11 (v := nI 1) (by decide) ?_
      refine ax_iadd dX2_step_12 ?_
      refine ax_aload_n dX2_step_13 rfl ?_
      refine ax_getf dX2_step_14 flX2_20 e88 rfl ?_
      refine ax_getf dX2_step_17 flX2_222 e67 rfl ?_
      rw [nI_add]
      refine ax_icmp_geT 49 dX2_step_20 (by decide) (nI_le (by omega) (by omega)) ?_
      exact ax_return dX2_step_49 rfl (hq _ But.rf hR)
  · have es : sStep ts s = s := if_neg (fun q => hc q.1)
    rw [es] at hq
    refine ax_aload_n dX2_step_0 rfl ?_
    refine ax_getf dX2_step_1 flX2_28 e88 rfl ?_
    refine ax_if_neT 49 dX2_step_4 (by decide) (fun q => hc ((nI_eq (by omega) (by omega)).mp q)) ?_
    exact ax_return dX2_step_49 rfl (hq _ But.rf hR)
def sSkip (ts : List CT) (k : Nat) (s : Nat × Nat) : Nat × Nat := sStep ts (if kA ts s.1 = k then s else sFail ts 1 s)
theorem sSkip_ok {k : Nat} (ht : tsOK ts) (hs : sOKs ts s) : sOKs ts (sSkip ts k s) := by
  unfold sSkip
  refine sStep_ok ?_
  split
  · exact hs
  · exact sFail_ok (by omega) ht hs
theorem c_rskip {k : Nat} (hk : k < 31) (ht : tsOK ts) (hs : sOKs ts s) (hR : Rd h ts l s) (hq : ∀ h', But h h' (fun j => j = 88) → Rd h' ts l (sSkip ts k s) → Q (.inl none) h') : X G (d + 1) mX2_skip 0 (ax_in 2 [.ref 88, .ref k]) [] h Q := by
  have e88 := hR.1
  have hk2 := (ht.2 _ hs.1).1
  unfold sSkip at hq
  by_cases hc : kA ts s.1 = k
  · rw [if_pos hc] at hq
    refine ax_aload_n dX2_skip_0 rfl ?_
    refine ax_getf dX2_skip_1 flX2_15 e88 rfl ?_
    refine ax_aload_n dX2_skip_4 rfl ?_
    refine ax_acmpE 13 dX2_skip_5 (by decide) (by omega) (by omega) (fun _ => ?_) (fun z => absurd hc z)
    refine ax_aload_n dX2_skip_13 rfl ?_
    refine ax_cV dX2_skip_14 mmX2_step lkX2_187 miX2_step msX2_step (ax_recv_of e88 rfl) rfl rfl (Nat.le_of_ble_eq_true rfl) (Nat.le_of_ble_eq_true rfl) rfl rfl (c_rstep (d := d) ht hs hR (fun h1 hb1 hR1 => ⟨_, rfl, ?_⟩))
    exact ax_return dX2_skip_17 rfl (hq _ hb1 hR1)
  · rw [if_neg hc] at hq
    refine ax_aload_n dX2_skip_0 rfl ?_
    refine ax_getf dX2_skip_1 flX2_15 e88 rfl ?_
    refine ax_aload_n dX2_skip_4 rfl ?_
    refine ax_acmpE 13 dX2_skip_5 (by decide) (by omega) (by omega) (fun z => absurd z hc) (fun _ => ?_)
    refine ax_aload_n dX2_skip_8 rfl ?_
    refine ax_iconst dX2_skip_9 (v := nI 1) (by decide) ?_
    refine ax_cV dX2_skip_10 mmX2_fail lkX2_78 miX2_fail msX2_fail (ax_recv_of e88 rfl) rfl rfl (Nat.le_of_ble_eq_true rfl) (Nat.le_of_ble_eq_true rfl) rfl rfl (c_rfail (d := d) (k := 1) (by omega) ht hs hR (fun h1 hb1 hR1 => ⟨_, rfl, ?_⟩))
    have e88 := hR1.1
    refine ax_aload_n dX2_skip_13 rfl ?_
    refine ax_cV dX2_skip_14 mmX2_step lkX2_187 miX2_step msX2_step (ax_recv_of e88 rfl) rfl rfl (Nat.le_of_ble_eq_true rfl) (Nat.le_of_ble_eq_true rfl) rfl rfl (c_rstep (d := d) ht (sFail_ok (by omega) ht hs) hR1 (fun h2 hb2 hR2 => ⟨_, rfl, ?_⟩))
    exact ax_return dX2_skip_17 rfl (hq _ (hb1.tr hb2) hR2)
def sOpen (ts : List CT) (b : Bool) (k : Nat) (s : Nat × Nat) : Nat × Nat := sStep ts (if b then s else sFail ts k s)
theorem sOpen_ok {b : Bool} {k : Nat} (hk : k ≤ 5) (ht : tsOK ts) (hs : sOKs ts s) : sOKs ts (sOpen ts b k s) := by
  unfold sOpen
  refine sStep_ok ?_
  split
  · exact hs
  · exact sFail_ok hk ht hs
theorem c_ropen {b : Bool} {k : Nat} (hk : k ≤ 5) (ht : tsOK ts) (hs : sOKs ts s) (hR : Rd h ts l s) (hq : ∀ h', But h h' (fun j => j = 88) → Rd h' ts l (sOpen ts b k s) → Q (.inl none) h') : X G (d + 1) mX2_open 0 (ax_in 3 [.ref 88, .int (bI b), .int (nI k)]) [] h Q := by
  have e88 := hR.1
  unfold sOpen at hq
  cases b with
  | true =>
    refine ax_iload_n dX2_open_0 rfl ?_
    refine ax_if_neT 9 dX2_open_1 (by decide) (by decide) ?_
    refine ax_aload_n dX2_open_9 rfl ?_
    refine ax_cV dX2_open_10 mmX2_step lkX2_187 miX2_step msX2_step (ax_recv_of e88 rfl) rfl rfl (Nat.le_of_ble_eq_true rfl) (Nat.le_of_ble_eq_true rfl) rfl rfl (c_rstep (d := d) ht hs hR (fun h1 hb1 hR1 => ⟨_, rfl, ?_⟩))
    exact ax_return dX2_open_13 rfl (hq _ hb1 hR1)
  | false =>
    refine ax_iload_n dX2_open_0 rfl ?_
    refine ax_if_neF 9 dX2_open_1 (by decide) rfl ?_
    refine ax_aload_n dX2_open_4 rfl ?_
    refine ax_iload_n dX2_open_5 rfl ?_
    refine ax_cV dX2_open_6 mmX2_fail lkX2_78 miX2_fail msX2_fail (ax_recv_of e88 rfl) rfl rfl (Nat.le_of_ble_eq_true rfl) (Nat.le_of_ble_eq_true rfl) rfl rfl (c_rfail (d := d) (k := k) hk ht hs hR (fun h1 hb1 hR1 => ⟨_, rfl, ?_⟩))
    have e88 := hR1.1
    refine ax_aload_n dX2_open_9 rfl ?_
    refine ax_cV dX2_open_10 mmX2_step lkX2_187 miX2_step msX2_step (ax_recv_of e88 rfl) rfl rfl (Nat.le_of_ble_eq_true rfl) (Nat.le_of_ble_eq_true rfl) rfl rfl (c_rstep (d := d) ht (sFail_ok hk ht hs) hR1 (fun h2 hb2 hR2 => ⟨_, rfl, ?_⟩))
    exact ax_return dX2_open_13 rfl (hq _ (hb1.tr hb2) hR2)
/-- a number: what is read, the state behind -/
def sNum (ts : List CT) (a b : Nat) (s : Nat × Nat) : Nat × Nat := sStep ts (if kA ts s.1 = 2 then (if (vA ts s.1).toInt32 < nI a ∨ nI b < (vA ts s.1).toInt32 then sFail ts 4 s else s) else sFail ts 1 s)
theorem sNum_ok {a b : Nat} (ht : tsOK ts) (hs : sOKs ts s) : sOKs ts (sNum ts a b s) := by
  unfold sNum
  refine sStep_ok ?_
  split
  · split
    · exact sFail_ok (by omega) ht hs
    · exact hs
  · exact sFail_ok (by omega) ht hs
theorem c_rnum {a b : Nat} (ht : tsOK ts) (hs : sOKs ts s) (hR : Rd h ts l s) (hq : ∀ h', But h h' (fun j => j = 88) → Rd h' ts l (sNum ts a b s) → Q (.inl (some (.int (vA ts s.1).toInt32))) h') : X G (d + 1) mX2_numberWithin 0 (ax_in 4 [.ref 88, .int (nI a), .int (nI b)]) [] h Q := by
  obtain ⟨e88, e67, g1, g2, ⟨fv, e70, qv⟩⟩ := id hR
  have hs1 := hs.1
  have ht1 := ht.1
  have hk2 := (ht.2 _ hs.1).1
  unfold sNum at hq
  have bad : ∀ k, k ≤ 5 → (k = 1 ∨ k = 4) → (∀ h', But h h' (fun j => j = 88) → Rd h' ts l (sStep ts (sFail ts k s)) → Q (.inl (some (.int (vA ts s.1).toInt32))) h') → ∀ h1, But h h1 (fun j => j = 88) → Rd h1 ts l (sFail ts k s) → X G (d + 1) mX2_numberWithin 47 [some (.ref 88), some (.int (nI a)), some (.int (nI b)), some (.int (vA ts s.1).toInt32)] [] h1 Q := by
    intro k hk _ hq h1 hb1 hR1
    have e88 := hR1.1
    refine ax_aload_n dX2_numberWithin_47 rfl ?_
    refine ax_cV dX2_numberWithin_48 mmX2_step lkX2_187 miX2_step msX2_step (ax_recv_of e88 rfl) rfl rfl (Nat.le_of_ble_eq_true rfl) (Nat.le_of_ble_eq_true rfl) rfl rfl (c_rstep (d := d) ht (sFail_ok hk ht hs) hR1 (fun h2 hb2 hR2 => ⟨_, rfl, ?_⟩))
    refine ax_iload_n dX2_numberWithin_51 rfl ?_
    exact ax_ireturn dX2_numberWithin_52 rfl (hq _ (hb1.tr hb2) hR2)
  have four : ((vA ts s.1).toInt32 < nI a ∨ nI b < (vA ts s.1).toInt32) → kA ts s.1 = 2 → X G (d + 1) mX2_numberWithin 42 [some (.ref 88), some (.int (nI a)), some (.int (nI b)), some (.int (vA ts s.1).toInt32)] [] h Q := by
    intro h3 hc
    rw [if_pos hc, if_pos h3] at hq
    refine ax_aload_n dX2_numberWithin_42 rfl ?_
    refine ax_iconst dX2_numberWithin_43 (v := nI 4) (by decide) ?_
    refine ax_cV dX2_numberWithin_44 mmX2_fail lkX2_78 miX2_fail msX2_fail (ax_recv_of e88 rfl) rfl rfl (Nat.le_of_ble_eq_true rfl) (Nat.le_of_ble_eq_true rfl) rfl rfl (c_rfail (d := d) (k := 4) (by omega) ht hs hR (fun h1 hb1 hR1 => ⟨_, rfl, ?_⟩))
    exact bad 4 (by omega) (Or.inr rfl) hq h1 hb1 hR1
  refine ax_aload_n dX2_numberWithin_0 rfl ?_
  refine ax_getf dX2_numberWithin_1 flX2_20 e88 rfl ?_
  refine ax_getf dX2_numberWithin_4 flX2_204 e67 rfl ?_
  refine ax_aload_n dX2_numberWithin_7 rfl ?_
  refine ax_getf dX2_numberWithin_8 flX2_32 e88 rfl ?_
  refine ax_lald dX2_numberWithin_11 e70 (ax_ix_nI (j := s.1) (by omega) (by decide)) ?_
  rw [qv _ hs1]
  refine ax_l2i dX2_numberWithin_12 ?_
  refine ax_istore_n dX2_numberWithin_13 (Nat.le_of_ble_eq_true rfl) ?_
  refine ax_aload_n dX2_numberWithin_14 rfl ?_
  refine ax_getf dX2_numberWithin_15 flX2_15 e88 rfl ?_
  by_cases hc : kA ts s.1 = 2
  · refine ax_gets (k := 2) dX2_numberWithin_18 (by decide) slX2_195 (ax_tkZ (by decide) rfl) ?_
    refine ax_acmpE 32 dX2_numberWithin_21 (by decide) (by omega) (by omega) (fun _ => ?_) (fun z => absurd hc z)
    by_cases h3 : (vA ts s.1).toInt32 < nI a
    · refine ax_iload_n dX2_numberWithin_32 rfl ?_
      refine ax_iload_n dX2_numberWithin_33 rfl ?_
      refine ax_icmp_ltT 42 dX2_numberWithin_34 (by decide) h3 ?_
      exact four (Or.inl h3) hc
    · by_cases h4 : nI b < (vA ts s.1).toInt32
      · refine ax_iload_n dX2_numberWithin_32 rfl ?_
        refine ax_iload_n dX2_numberWithin_33 rfl ?_
        refine ax_icmp_ltF 42 dX2_numberWithin_34 (by decide) h3 ?_
        refine ax_iload_n dX2_numberWithin_37 rfl ?_
        refine ax_iload_n dX2_numberWithin_38 rfl ?_
        refine ax_icmp_leF 47 dX2_numberWithin_39 (by decide) (Int32.not_le.mpr h4) ?_
        exact four (Or.inr h4) hc
      · rw [if_pos hc, if_neg (fun q => q.elim h3 h4)] at hq
        refine ax_iload_n dX2_numberWithin_32 rfl ?_
        refine ax_iload_n dX2_numberWithin_33 rfl ?_
        refine ax_icmp_ltF 42 dX2_numberWithin_34 (by decide) h3 ?_
        refine ax_iload_n dX2_numberWithin_37 rfl ?_
        refine ax_iload_n dX2_numberWithin_38 rfl ?_
        refine ax_icmp_leT 47 dX2_numberWithin_39 (by decide) (Int32.not_lt.mp h4) ?_
        refine ax_aload_n dX2_numberWithin_47 rfl ?_
        refine ax_cV dX2_numberWithin_48 mmX2_step lkX2_187 miX2_step msX2_step (ax_recv_of e88 rfl) rfl rfl (Nat.le_of_ble_eq_true rfl) (Nat.le_of_ble_eq_true rfl) rfl rfl (c_rstep (d := d) ht hs hR (fun h2 hb2 hR2 => ⟨_, rfl, ?_⟩))
        refine ax_iload_n dX2_numberWithin_51 rfl ?_
        exact ax_ireturn dX2_numberWithin_52 rfl (hq _ hb2 hR2)
  · rw [if_neg hc] at hq
    refine ax_gets (k := 2) dX2_numberWithin_18 (by decide) slX2_195 (ax_tkZ (by decide) rfl) ?_
    refine ax_acmpE 32 dX2_numberWithin_21 (by decide) (by omega) (by omega) (fun z => absurd z hc) (fun _ => ?_)
    refine ax_aload_n dX2_numberWithin_24 rfl ?_
    refine ax_iconst dX2_numberWithin_25 (v := nI 1) (by decide) ?_
    refine ax_cV dX2_numberWithin_26 mmX2_fail lkX2_78 miX2_fail msX2_fail (ax_recv_of e88 rfl) rfl rfl (Nat.le_of_ble_eq_true rfl) (Nat.le_of_ble_eq_true rfl) rfl rfl (c_rfail (d := d) (k := 1) (by omega) ht hs hR (fun h1 hb1 hR1 => ⟨_, rfl, ?_⟩))
    refine ax_goto 47 dX2_numberWithin_29 (by decide) ?_
    exact bad 1 (by omega) (Or.inl rfl) hq h1 hb1 hR1
end RE
