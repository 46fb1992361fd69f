section RE2
variable {G : ax_G} {d : Nat} {h : ax_H} {Q : ax_O → ax_H → Prop}
variable {ts : List CT} {l : Nat} {s : Nat × Nat} {N : Nt} {H : Nat → Nat} {sn pn : Nat → Int64} {cs : List Nat} {lb le : Nat → Nat} {hl : Int32}
abbrev isNm (k : Nat) : Prop := k = 3 ∨ k = 28 ∨ k = 29 ∨ k = 30
theorem nmOf_lt {f : Nat → Int64} {n : Nat} {v : Int64} {j : Nat} (hj : nmOf f n v = some j) : j < n := by
  have := fst_lt hj
  omega
theorem on_m1 {f : Nat → Int64} {n : Nat} {v : Int64} (hn : n < 100) : on (nmOf f n v) = -1 ↔ nmOf f n v = none := on_none (fun j hj => by have := nmOf_lt hj; omega)
/-- a fresh name -/
def sName (ts : List CT) (N : Nt) (sn pn : Nat → Int64) (s : Nat × Nat) : Nat × Nat := sStep ts (if isNm (kA ts s.1) then (if nmOf sn (nS N) (vA ts s.1) = none ∧ nmOf pn (nP N) (vA ts s.1) = none then s else sFail ts 3 s) else sFail ts 1 s)
/-- a place other than x -/
def sPlace (ts : List CT) (N : Nt) (pn : Nat → Int64) (x : Option Nat) (s : Nat × Nat) : Nat × Nat := sStep ts (if isNm (kA ts s.1) then (if nmOf pn (nP N) (vA ts s.1) = none then sFail ts 2 s else if nmOf pn (nP N) (vA ts s.1) = x then sFail ts 3 s else s) else sFail ts 1 s)
def sStuff (ts : List CT) (N : Nt) (sn : Nat → Int64) (s : Nat × Nat) : Nat × Nat := sStep ts (if isNm (kA ts s.1) then (if nmOf sn (nS N) (vA ts s.1) = none then sFail ts 2 s else s) else sFail ts 1 s)
theorem sName_ok (ht : tsOK ts) (hs : sOKs ts s) : sOKs ts (sName ts N sn pn s) := by
  unfold sName
  refine sStep_ok ?_
  split
  · split
    · exact hs
    · exact sFail_ok (by omega) ht hs
  · exact sFail_ok (by omega) ht hs
theorem sPlace_ok {x : Option Nat} (ht : tsOK ts) (hs : sOKs ts s) : sOKs ts (sPlace ts N pn x s) := by
  unfold sPlace
  refine sStep_ok ?_
  split
  · split
    · exact sFail_ok (by omega) ht hs
    · split
      · exact sFail_ok (by omega) ht hs
      · exact hs
  · exact sFail_ok (by omega) ht hs
theorem sStuff_ok (ht : tsOK ts) (hs : sOKs ts s) : sOKs ts (sStuff ts N sn s) := by
  unfold sStuff
  refine sStep_ok ?_
  split
  · split
    · exact sFail_ok (by omega) ht hs
    · exact hs
  · exact sFail_ok (by omega) ht hs
theorem c_rname (ht : tsOK ts) (hs : sOKs ts s) (hD : Dr h N H sn pn cs lb le hl) (hB : DrB N cs lb le) (hR : Rd h ts l s) (hq : ∀ h', But h h' (fun j => j = 88) → Rd h' ts l (sName ts N sn pn s) → Q (.inl (some (.long (vA ts s.1)))) h') : X G (d + 2) mX2_freshName 0 (ax_in 3 [.ref 88]) [] h Q := by
  obtain ⟨e88, e67, g1, g2, ⟨fv, e70, qv⟩⟩ := id hR
  have hs1 := hs.1
  have ht1 := ht.1
  have hk2 := (ht.2 _ hs.1).1
  have e71 := hD.1
  have hS5 := hB.1
  have hP7 := hB.2.1
  unfold sName at hq
  have fin : ∀ (s1 : Nat × Nat), sOKs ts s1 → (∀ h', But h h' (fun j => j = 88) → Rd h' ts l (sStep ts s1) → Q (.inl (some (.long (vA ts s.1)))) h') → ∀ h1, But h h1 (fun j => j = 88) → Rd h1 ts l s1 → X G (d + 2) mX2_freshName 60 [some (.ref 88), some (.long (vA ts s.1)), none] [] h1 Q := by
    intro s1 hs1 hq h1 hb1 hR1
    have e88 := hR1.1
    refine ax_aload_n dX2_freshName_60 rfl ?_
    refine ax_cV dX2_freshName_61 mmX2_step lkX2_187 miX2_step msX2_step (ax_recv_of e88 rfl) rfl rfl (Nat.le_of_ble_eq_true rfl) (Nat.le_of_ble_eq_true rfl) rfl rfl (c_rstep (d := d + 1) ht hs1 hR1 (fun h2 hb2 hR2 => ⟨_, rfl, ?_⟩))
    refine ax_lload_n dX2_freshName_64 rfl ?_
    exact ax_lreturn dX2_freshName_65 rfl (hq _ (hb1.tr hb2) hR2)
  have again : isNm (kA ts s.1) → ¬ (nmOf sn (nS N) (vA ts s.1) = none ∧ nmOf pn (nP N) (vA ts s.1) = none) → X G (d + 2) mX2_freshName 55 [some (.ref 88), some (.long (vA ts s.1)), none] [] h Q := by
    intro hc hn
    rw [if_pos hc, if_neg hn] at hq
    refine ax_aload_n dX2_freshName_55 rfl ?_
    refine ax_iconst dX2_freshName_56 (v := nI 3) (by decide) ?_
    refine ax_cV dX2_freshName_57 mmX2_fail lkX2_78 miX2_fail msX2_fail (ax_recv_of e88 rfl) rfl rfl (Nat.le_of_ble_eq_true rfl) (Nat.le_of_ble_eq_true rfl) rfl rfl (c_rfail (d := d + 1) (k := 3) (by omega) ht hs hR (fun h1 hb1 hR1 => ⟨_, rfl, ?_⟩))
    exact fin _ (sFail_ok (by omega) ht hs) hq h1 hb1 hR1
  refine ax_aload_n dX2_freshName_0 rfl ?_
  refine ax_getf dX2_freshName_1 flX2_20 e88 rfl ?_
  refine ax_getf dX2_freshName_4 flX2_204 e67 rfl ?_
  refine ax_aload_n dX2_freshName_7 rfl ?_
  refine ax_getf dX2_freshName_8 flX2_32 e88 rfl ?_
  refine ax_lald dX2_freshName_11 e70 (ax_ix_nI (j := s.1) (by omega) (by decide)) ?_
  rw [qv _ hs1]
  refine ax_lstore_n dX2_freshName_12 (Nat.le_of_ble_eq_true rfl) ?_
  refine ax_aload_n dX2_freshName_13 rfl ?_
  refine ax_getf dX2_freshName_14 flX2_15 e88 rfl ?_
  refine ax_cV dX2_freshName_17 mmX6_isName lkX2_211 miX6_isName msX6_isName (ax_recvT (by omega)) rfl rfl (Nat.le_of_ble_eq_true rfl) (Nat.le_of_ble_eq_true rfl) rfl rfl (c_isName (d := d + 1) hk2 ⟨_, rfl, ?_⟩)
  by_cases hc : isNm (kA ts s.1)
  · rw [b1_t hc]
    refine ax_if_neT 31 dX2_freshName_20 (by decide) (by decide) ?_
    refine ax_aload_n dX2_freshName_31 rfl ?_
    refine ax_getf dX2_freshName_32 flX2_24 e88 rfl ?_
    refine ax_lload_n dX2_freshName_35 rfl ?_
    refine ax_cV dX2_freshName_36 mmX1_stuffNamed lkX2_215 miX1_stuffNamed msX1_stuffNamed (ax_recv_of e71 rfl) rfl rfl (Nat.le_of_ble_eq_true rfl) (Nat.le_of_ble_eq_true rfl) rfl rfl (c_stuffNamed (d := d) hD hB ⟨_, rfl, ?_⟩)
    by_cases h1 : nmOf sn (nS N) (vA ts s.1) = none
    · rw [h1]
      refine ax_iconst dX2_freshName_39 (v := -1) (by decide) ?_
      refine ax_icmp_neF 55 dX2_freshName_40 (by decide) rfl ?_
      refine ax_aload_n dX2_freshName_43 rfl ?_
      refine ax_getf dX2_freshName_44 flX2_24 e88 rfl ?_
      refine ax_lload_n dX2_freshName_47 rfl ?_
      refine ax_cV dX2_freshName_48 mmX1_placeNamed lkX2_219 miX1_placeNamed msX1_placeNamed (ax_recv_of e71 rfl) rfl rfl (Nat.le_of_ble_eq_true rfl) (Nat.le_of_ble_eq_true rfl) rfl rfl (c_placeNamed (d := d) hD hB ⟨_, rfl, ?_⟩)
      by_cases h2 : nmOf pn (nP N) (vA ts s.1) = none
      · rw [if_pos hc, if_pos ⟨h1, h2⟩] at hq
        rw [h2]
        refine ax_iconst dX2_freshName_51 (v := -1) (by decide) ?_
        refine ax_icmp_eqT 60 dX2_freshName_52 (by decide) rfl ?_
        exact fin s hs hq h But.rf hR
      · refine ax_iconst dX2_freshName_51 (v := -1) (by decide) ?_
        refine ax_icmp_eqF 60 dX2_freshName_52 (by decide) (fun q => h2 ((on_m1 (by omega)).mp q)) ?_
        exact again hc (fun q => h2 q.2)
    · refine ax_iconst dX2_freshName_39 (v := -1) (by decide) ?_
      refine ax_icmp_neT 55 dX2_freshName_40 (by decide) (fun q => h1 ((on_m1 (by omega)).mp q)) ?_
      exact again hc (fun q => h1 q.1)
  · rw [b1_f hc]
    rw [if_neg hc] at hq
    refine ax_if_neF 31 dX2_freshName_20 (by decide) rfl ?_
    refine ax_aload_n dX2_freshName_23 rfl ?_
    refine ax_iconst dX2_freshName_24 (v := nI 1) (by decide) ?_
    refine ax_cV dX2_freshName_25 mmX2_fail lkX2_78 miX2_fail msX2_fail (ax_recv_of e88 rfl) rfl rfl (Nat.le_of_ble_eq_true rfl) (Nat.le_of_ble_eq_true rfl) rfl rfl (c_rfail (d := d + 1) (k := 1) (by omega) ht hs hR (fun h1 hb1 hR1 => ⟨_, rfl, ?_⟩))
    refine ax_goto 60 dX2_freshName_28 (by decide) ?_
    exact fin _ (sFail_ok (by omega) ht hs) hq h1 hb1 hR1
theorem on_inj {a b : Option Nat} (ha : ∀ j, a = some j → j < 100) (hb : ∀ j, b = some j → j < 100) (h : on a = on b) : a = b := by
  cases b with
  | none => exact (on_none (fun j hj => by have := ha j hj; omega)).mp h
  | some j => exact (on_eq (fun r hr => ha r hr) (hb j rfl)).mp h.symm
theorem c_rplace {x : Option Nat} (hx : ∀ j, x = some j → j < 100) (ht : tsOK ts) (hs : sOKs ts s) (hD : Dr h N H sn pn cs lb le hl) (hB : DrB N cs lb le) (hR : Rd h ts l s) (hq : ∀ h', But h h' (fun j => j = 88) → Rd h' ts l (sPlace ts N pn x s) → Q (.inl (some (.int (on (nmOf pn (nP N) (vA ts s.1)))))) h') : X G (d + 2) mX2_placeOtherThan 0 (ax_in 3 [.ref 88, .int (on x)]) [] h Q := by
  obtain ⟨e88, e67, g1, g2, ⟨fv, e70, qv⟩⟩ := id hR
  have hs1 := hs.1
  have ht1 := ht.1
  have hk2 := (ht.2 _ hs.1).1
  have e71 := hD.1
  have hP7 := hB.2.1
  have hpl : ∀ j, nmOf pn (nP N) (vA ts s.1) = some j → j < 100 := fun j hj => by have := nmOf_lt hj; omega
  unfold sPlace at hq
  have fin : ∀ (s1 : Nat × Nat), sOKs ts s1 → (∀ h', But h h' (fun j => j = 88) → Rd h' ts l (sStep ts s1) → Q (.inl (some (.int (on (nmOf pn (nP N) (vA ts s.1)))))) h') → ∀ h1, But h h1 (fun j => j = 88) → Rd h1 ts l s1 → X G (d + 2) mX2_placeOtherThan 61 [some (.ref 88), some (.int (on x)), some (.int (on (nmOf pn (nP N) (vA ts s.1))))] [] h1 Q := by
    intro s1 hs1 hq h1 hb1 hR1
    have e88 := hR1.1
    refine ax_aload_n dX2_placeOtherThan_61 rfl ?_
    refine ax_cV dX2_placeOtherThan_62 mmX2_step lkX2_187 miX2_step msX2_step (ax_recv_of e88 rfl) rfl rfl (Nat.le_of_ble_eq_true rfl) (Nat.le_of_ble_eq_true rfl) rfl rfl (c_rstep (d := d + 1) ht hs1 hR1 (fun h2 hb2 hR2 => ⟨_, rfl, ?_⟩))
    refine ax_iload_n dX2_placeOtherThan_65 rfl ?_
    exact ax_ireturn dX2_placeOtherThan_66 rfl (hq _ (hb1.tr hb2) hR2)
  refine ax_aload_n dX2_placeOtherThan_0 rfl ?_
  refine ax_getf dX2_placeOtherThan_1 flX2_24 e88 rfl ?_
  refine ax_aload_n dX2_placeOtherThan_4 rfl ?_
  refine ax_getf dX2_placeOtherThan_5 flX2_20 e88 rfl ?_
  refine ax_getf dX2_placeOtherThan_8 flX2_204 e67 rfl ?_
  refine ax_aload_n dX2_placeOtherThan_11 rfl ?_
  refine ax_getf dX2_placeOtherThan_12 flX2_32 e88 rfl ?_
  refine ax_lald dX2_placeOtherThan_15 e70 (ax_ix_nI (j := s.1) (by omega) (by decide)) ?_
  rw [qv _ hs1]
  refine ax_cV dX2_placeOtherThan_16 mmX1_placeNamed lkX2_219 miX1_placeNamed msX1_placeNamed (ax_recv_of e71 rfl) rfl rfl (Nat.le_of_ble_eq_true rfl) (Nat.le_of_ble_eq_true rfl) rfl rfl (c_placeNamed (d := d) hD hB ⟨_, rfl, ?_⟩)
  refine ax_istore_n dX2_placeOtherThan_19 (Nat.le_of_ble_eq_true rfl) ?_
  refine ax_aload_n dX2_placeOtherThan_20 rfl ?_
  refine ax_getf dX2_placeOtherThan_21 flX2_15 e88 rfl ?_
  refine ax_cV dX2_placeOtherThan_24 mmX6_isName lkX2_211 miX6_isName msX6_isName (ax_recvT (by omega)) rfl rfl (Nat.le_of_ble_eq_true rfl) (Nat.le_of_ble_eq_true rfl) rfl rfl (c_isName (d := d + 1) hk2 ⟨_, rfl, ?_⟩)
  by_cases hc : isNm (kA ts s.1)
  · rw [b1_t hc]
    rw [if_pos hc] at hq
    refine ax_if_neT 38 dX2_placeOtherThan_27 (by decide) (by decide) ?_
    by_cases h1 : nmOf pn (nP N) (vA ts s.1) = none
    · rw [if_pos h1] at hq
      refine ax_iload_n dX2_placeOtherThan_38 rfl ?_
      refine ax_iconst dX2_placeOtherThan_39 (v := -1) (by decide) ?_
      refine ax_icmp_neF 51 dX2_placeOtherThan_40 (by decide) ((on_m1 (by omega)).mpr h1) ?_
      refine ax_aload_n dX2_placeOtherThan_43 rfl ?_
      refine ax_iconst dX2_placeOtherThan_44 (v := nI 2) (by decide) ?_
      refine ax_cV dX2_placeOtherThan_45 mmX2_fail lkX2_78 miX2_fail msX2_fail (ax_recv_of e88 rfl) rfl rfl (Nat.le_of_ble_eq_true rfl) (Nat.le_of_ble_eq_true rfl) rfl rfl (c_rfail (d := d + 1) (k := 2) (by omega) ht hs hR (fun h1 hb1 hR1 => ⟨_, rfl, ?_⟩))
      refine ax_goto 61 dX2_placeOtherThan_48 (by decide) ?_
      exact fin _ (sFail_ok (by omega) ht hs) hq h1 hb1 hR1
    · rw [if_neg h1] at hq
      refine ax_iload_n dX2_placeOtherThan_38 rfl ?_
      refine ax_iconst dX2_placeOtherThan_39 (v := -1) (by decide) ?_
      refine ax_icmp_neT 51 dX2_placeOtherThan_40 (by decide) (fun q => h1 ((on_m1 (by omega)).mp q)) ?_
      by_cases h2 : nmOf pn (nP N) (vA ts s.1) = x
      · rw [if_pos h2] at hq
        refine ax_iload_n dX2_placeOtherThan_51 rfl ?_
        refine ax_iload_n dX2_placeOtherThan_52 rfl ?_
        refine ax_icmp_neF 61 dX2_placeOtherThan_53 (by decide) (by rw [h2]) ?_
        refine ax_aload_n dX2_placeOtherThan_56 rfl ?_
        refine ax_iconst dX2_placeOtherThan_57 (v := nI 3) (by decide) ?_
        refine ax_cV dX2_placeOtherThan_58 mmX2_fail lkX2_78 miX2_fail msX2_fail (ax_recv_of e88 rfl) rfl rfl (Nat.le_of_ble_eq_true rfl) (Nat.le_of_ble_eq_true rfl) rfl rfl (c_rfail (d := d + 1) (k := 3) (by omega) ht hs hR (fun h1 hb1 hR1 => ⟨_, rfl, ?_⟩))
        exact fin _ (sFail_ok (by omega) ht hs) hq h1 hb1 hR1
      · rw [if_neg h2] at hq
        refine ax_iload_n dX2_placeOtherThan_51 rfl ?_
        refine ax_iload_n dX2_placeOtherThan_52 rfl ?_
        refine ax_icmp_neT 61 dX2_placeOtherThan_53 (by decide) (fun q => h2 (on_inj hpl hx q)) ?_
        exact fin s hs hq h But.rf hR
  · rw [b1_f hc]
    rw [if_neg hc] at hq
    refine ax_if_neF 38 dX2_placeOtherThan_27 (by decide) rfl ?_
    refine ax_aload_n dX2_placeOtherThan_30 rfl ?_
    refine ax_iconst dX2_placeOtherThan_31 (v := nI 1) (by decide) ?_
    refine ax_cV dX2_placeOtherThan_32 mmX2_fail lkX2_78 miX2_fail msX2_fail (ax_recv_of e88 rfl) rfl rfl (Nat.le_of_ble_eq_true rfl) (Nat.le_of_ble_eq_true rfl) rfl rfl (c_rfail (d := d + 1) (k := 1) (by omega) ht hs hR (fun h1 hb1 hR1 => ⟨_, rfl, ?_⟩))
    refine ax_goto 61 dX2_placeOtherThan_35 (by decide) ?_
    exact fin _ (sFail_ok (by omega) ht hs) hq h1 hb1 hR1
theorem c_rstuff (ht : tsOK ts) (hs : sOKs ts s) (hD : Dr h N H sn pn cs lb le hl) (hB : DrB N cs lb le) (hR : Rd h ts l s) (hq : ∀ h', But h h' (fun j => j = 88) → Rd h' ts l (sStuff ts N sn s) → Q (.inl (some (.int (on (nmOf sn (nS N) (vA ts s.1)))))) h') : X G (d + 2) mX2_stuffHere 0 (ax_in 2 [.ref 88]) [] h Q := by
  obtain ⟨e88, e67, g1, g2, ⟨fv, e70, qv⟩⟩ := id hR
  have hs1 := hs.1
  have ht1 := ht.1
  have hk2 := (ht.2 _ hs.1).1
  have e71 := hD.1
  have hS5 := hB.1
  unfold sStuff at hq
  have fin : ∀ (s1 : Nat × Nat), sOKs ts s1 → (∀ h', But h h' (fun j => j = 88) → Rd h' ts l (sStep ts s1) → Q (.inl (some (.int (on (nmOf sn (nS N) (vA ts s.1)))))) h') → ∀ h1, But h h1 (fun j => j = 88) → Rd h1 ts l s1 → X G (d + 2) mX2_stuffHere 48 [some (.ref 88), some (.int (on (nmOf sn (nS N) (vA ts s.1))))] [] h1 Q := by
    intro s1 hs1 hq h1 hb1 hR1
    have e88 := hR1.1
    refine ax_aload_n dX2_stuffHere_48 rfl ?_
    refine ax_cV dX2_stuffHere_49 mmX2_step lkX2_187 miX2_step msX2_step (ax_recv_of e88 rfl) rfl rfl (Nat.le_of_ble_eq_true rfl) (Nat.le_of_ble_eq_true rfl) rfl rfl (c_rstep (d := d + 1) ht hs1 hR1 (fun h2 hb2 hR2 => ⟨_, rfl, ?_⟩))
    refine ax_iload_n dX2_stuffHere_52 rfl ?_
    exact ax_ireturn dX2_stuffHere_53 rfl (hq _ (hb1.tr hb2) hR2)
  refine ax_aload_n dX2_stuffHere_0 rfl ?_
  refine ax_getf dX2_stuffHere_1 flX2_24 e88 rfl ?_
  refine ax_aload_n dX2_stuffHere_4 rfl ?_
  refine ax_getf dX2_stuffHere_5 flX2_20 e88 rfl ?_
  refine ax_getf dX2_stuffHere_8 flX2_204 e67 rfl ?_
  refine ax_aload_n dX2_stuffHere_11 rfl ?_
  refine ax_getf dX2_stuffHere_12 flX2_32 e88 rfl ?_
  refine ax_lald dX2_stuffHere_15 e70 (ax_ix_nI (j := s.1) (by omega) (by decide)) ?_
  rw [qv _ hs1]
  refine ax_cV dX2_stuffHere_16 mmX1_stuffNamed lkX2_215 miX1_stuffNamed msX1_stuffNamed (ax_recv_of e71 rfl) rfl rfl (Nat.le_of_ble_eq_true rfl) (Nat.le_of_ble_eq_true rfl) rfl rfl (c_stuffNamed (d := d) hD hB ⟨_, rfl, ?_⟩)
  refine ax_istore_n dX2_stuffHere_19 (Nat.le_of_ble_eq_true rfl) ?_
  refine ax_aload_n dX2_stuffHere_20 rfl ?_
  refine ax_getf dX2_stuffHere_21 flX2_15 e88 rfl ?_
  refine ax_cV dX2_stuffHere_24 mmX6_isName lkX2_211 miX6_isName msX6_isName (ax_recvT (by omega)) rfl rfl (Nat.le_of_ble_eq_true rfl) (Nat.le_of_ble_eq_true rfl) rfl rfl (c_isName (d := d + 1) hk2 ⟨_, rfl, ?_⟩)
  by_cases hc : isNm (kA ts s.1)
  · rw [b1_t hc]
    rw [if_pos hc] at hq
    refine ax_if_neT 38 dX2_stuffHere_27 (by decide) (by decide) ?_
    by_cases h1 : nmOf sn (nS N) (vA ts s.1) = none
    · rw [if_pos h1] at hq
      refine ax_iload_n dX2_stuffHere_38 rfl ?_
      refine ax_iconst dX2_stuffHere_39 (v := -1) (by decide) ?_
      refine ax_icmp_neF 48 dX2_stuffHere_40 (by decide) ((on_m1 (by omega)).mpr h1) ?_
      refine ax_aload_n dX2_stuffHere_43 rfl ?_
      refine ax_iconst dX2_stuffHere_44 (v := nI 2) (by decide) ?_
      refine ax_cV dX2_stuffHere_45 mmX2_fail lkX2_78 miX2_fail msX2_fail (ax_recv_of e88 rfl) rfl rfl (Nat.le_of_ble_eq_true rfl) (Nat.le_of_ble_eq_true rfl) rfl rfl (c_rfail (d := d + 1) (k := 2) (by omega) ht hs hR (fun h1 hb1 hR1 => ⟨_, rfl, ?_⟩))
      exact fin _ (sFail_ok (by omega) ht hs) hq h1 hb1 hR1
    · rw [if_neg h1] at hq
      refine ax_iload_n dX2_stuffHere_38 rfl ?_
      refine ax_iconst dX2_stuffHere_39 (v := -1) (by decide) ?_
      refine ax_icmp_neT 48 dX2_stuffHere_40 (by decide) (fun q => h1 ((on_m1 (by omega)).mp q)) ?_
      exact fin s hs hq h But.rf hR
  · rw [b1_f hc]
    rw [if_neg hc] at hq
    refine ax_if_neF 38 dX2_stuffHere_27 (by decide) rfl ?_
    refine ax_aload_n dX2_stuffHere_30 rfl ?_
    refine ax_iconst dX2_stuffHere_31 (v := nI 1) (by decide) ?_
    refine ax_cV dX2_stuffHere_32 mmX2_fail lkX2_78 miX2_fail msX2_fail (ax_recv_of e88 rfl) rfl rfl (Nat.le_of_ble_eq_true rfl) (Nat.le_of_ble_eq_true rfl) rfl rfl (c_rfail (d := d + 1) (k := 1) (by omega) ht hs hR (fun h1 hb1 hR1 => ⟨_, rfl, ?_⟩))
    refine ax_goto 48 dX2_stuffHere_35 (by decide) ?_
    exact fin _ (sFail_ok (by omega) ht hs) hq h1 hb1 hR1
end RE2
