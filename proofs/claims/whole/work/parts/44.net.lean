/-! ===== Net: the draft ===== -/
section NE
variable {G : ax_G} {d : Nat} {h : ax_H} {Q : ax_O → ax_H → Prop}
/-- the first of n names that is v -/
def nmOf (f : Nat → Int64) (n : Nat) (v : Int64) : Option Nat := fst (fun i => f i == v) 0 n
theorem fst_cong {P P' : Nat → Bool} : ∀ (m i : Nat), (∀ j, i ≤ j → j < i + m → P j = P' j) → fst P i m = fst P' i m
  | 0, _, _ => rfl
  | m + 1, i, hp => by
    unfold fst
    rw [hp i (by omega) (by omega), fst_cong m (i + 1) (fun j h1 h2 => hp j (by omega) (by omega))]
theorem c_numberOf {k n L : Nat} {f : Nat → Int64} {v : Int64} (ek : h.2.2 k = some (eJ L f)) (hn : n ≤ L) (hL : L < 2 ^ 30) (hq : Q (.inl (some (.int (on (nmOf f n v))))) h) : X G d mX1_numberOf 0 (ax_in 5 [.ref k, .int (nI n), .long v]) [] h Q := by
  have loop : ∀ (m i : Nat), i + m = n → fst (fun i => f i == v) i m = nmOf f n v → X G d mX1_numberOf 3 [some (.ref k), some (.int (nI n)), some (.long v), none, some (.int (nI i))] [] h Q := by
    intro m
    induction m with
    | zero =>
      intro i hi hf
      rw [← hf] at hq
      refine ax_iload dX1_numberOf_3 rfl ?_
      refine ax_iload_n dX1_numberOf_5 rfl ?_
      refine ax_icmp_geT 34 dX1_numberOf_6 (by decide) (nI_le (by omega) (by omega)) ?_
      refine ax_iconst dX1_numberOf_34 (v := -1) (by decide) ?_
      exact ax_ireturn dX1_numberOf_35 rfl hq
    | succ m ih =>
      intro i hi hf
      refine ax_iload dX1_numberOf_3 rfl ?_
      refine ax_iload_n dX1_numberOf_5 rfl ?_
      refine ax_icmp_geF 34 dX1_numberOf_6 (by decide) (nI_ge (by omega) (by omega)) ?_
      refine ax_iload dX1_numberOf_9 rfl ?_
      refine ax_aload_n dX1_numberOf_11 rfl ?_
      refine ax_alen dX1_numberOf_12 ek (by decide) rfl ?_
      refine ax_icmp_geF 34 dX1_numberOf_13 (by decide) (nI_ge (b := L) (by omega) (by omega)) ?_
      refine ax_aload_n dX1_numberOf_16 rfl ?_
      refine ax_iload dX1_numberOf_17 rfl ?_
      refine ax_lald dX1_numberOf_19 ek (ax_ix_nI (j := i) (by omega) (by omega)) ?_
      refine ax_lload_n dX1_numberOf_20 rfl ?_
      refine ax_lcmp dX1_numberOf_21 ?_
      by_cases hc : f i = v
      · rw [← hf] at hq
        unfold fst at hq
        rw [if_pos (by rw [hc]; exact beq_self_eq_true v)] at hq
        refine ax_if_neF 28 dX1_numberOf_22 (by decide) (lg_cmp0.mpr hc) ?_
        refine ax_iload dX1_numberOf_25 rfl ?_
        exact ax_ireturn dX1_numberOf_27 rfl hq
      · refine ax_if_neT 28 dX1_numberOf_22 (by decide) (fun q => hc (lg_cmp0.mp q)) ?_
        refine ax_iinc dX1_numberOf_28 rfl (ax_inc 1) ?_
        refine ax_goto 3 dX1_numberOf_31 (by decide) ?_
        rw [nI_add]
        refine ih (i + 1) (by omega) ?_
        rw [← hf]
        conv => rhs; unfold fst
        rw [if_neg (fun q => hc (eq_of_beq q))]
  refine ax_iconst dX1_numberOf_0 (v := nI 0) (by decide) ?_
  refine ax_istore dX1_numberOf_1 (Nat.le_of_ble_eq_true rfl) ?_
  exact loop n 0 (by omega) rfl
/-- the draft: tables, holes, names, codes, where the laws begin and end -/
def Dr (h : ax_H) (N : Nt) (H : Nat → Nat) (sn pn : Nat → Int64) (cs : List Nat) (lb le : Nat → Nat) (hl : Int32) : Prop :=
  h.2.2 71 = some (eNet 71 (nI (nS N)) (nI (nP N)) (nI (nR N)) (nI cs.length) hl) ∧ (∃ f, h.2.2 72 = some (eJ 5 f) ∧ ∀ j, j < nS N → f j = sn j) ∧ (∃ f, h.2.2 73 = some (eJ 7 f) ∧ ∀ j, j < nP N → f j = pn j) ∧
  isA h 74 5 5 (N.1 1) ∧ isA h 75 5 5 (N.1 2) ∧ isA h 76 10 (nR N) (N.1 3) ∧ isA h 77 10 (nR N) (N.1 4) ∧ isA h 78 10 (nR N) (N.1 5) ∧ isA h 79 10 (nR N) H ∧ TrIs h 80 (nT N) (trN N) ∧
  (∃ C, h.2.2 85 = some (eI 1003 C) ∧ lies C 0 cs) ∧ isA h 86 3 3 lb ∧ isA h 87 3 3 le ∧ (hl = 0 ∨ hl = 1) ∧ (hl = 0 → 4 ∉ cs)
/-- its sizes -/
def DrB (N : Nt) (cs : List Nat) (lb le : Nat → Nat) : Prop := nS N ≤ 5 ∧ nP N ≤ 7 ∧ nR N ≤ 10 ∧ nT N ≤ 6 ∧ cs.length ≤ 1003 ∧ ∀ l, l < 3 → lb l ≤ 1003 ∧ le l ≤ 1003
theorem Dr.kept {h' : ax_H} {N : Nt} {H : Nat → Nat} {sn pn : Nat → Int64} {cs : List Nat} {lb le : Nat → Nat} {hl : Int32} (a : Dr h N H sn pn cs lb le hl) (hk : ∀ j, 71 ≤ j → j ≤ 87 → h'.2.2 j = h.2.2 j) : Dr h' N H sn pn cs lb le hl := by
  obtain ⟨e, ⟨f1, e1, q1⟩, ⟨f2, e2, q2⟩, a1, a2, a3, a4, a5, a6, a7, ⟨C, e3, q3⟩, a8, a9, a10⟩ := a
  exact ⟨(hk _ (by omega) (by omega)).trans e, ⟨f1, (hk _ (by omega) (by omega)).trans e1, q1⟩, ⟨f2, (hk _ (by omega) (by omega)).trans e2, q2⟩, a1.kept (hk _ (by omega) (by omega)), a2.kept (hk _ (by omega) (by omega)), a3.kept (hk _ (by omega) (by omega)), a4.kept (hk _ (by omega) (by omega)), a5.kept (hk _ (by omega) (by omega)), a6.kept (hk _ (by omega) (by omega)), a7.kept (fun j z1 z2 => hk j (by omega) (by omega)), ⟨C, (hk _ (by omega) (by omega)).trans e3, q3⟩, a8.kept (hk _ (by omega) (by omega)), a9.kept (hk _ (by omega) (by omega)), a10⟩
variable {N : Nt} {H : Nat → Nat} {sn pn : Nat → Int64} {cs : List Nat} {lb le : Nat → Nat} {hl : Int32}
theorem c_stuffNamed {v : Int64} (hD : Dr h N H sn pn cs lb le hl) (hB : DrB N cs lb le) (hq : Q (.inl (some (.int (on (nmOf sn (nS N) v))))) h) : X G (d + 1) mX1_stuffNamed 0 (ax_in 3 [.ref 71, .long v]) [] h Q := by
  obtain ⟨e71, ⟨f1, e72, q1⟩, -⟩ := id hD
  have e : nmOf f1 (nS N) v = nmOf sn (nS N) v := fst_cong _ _ (fun j _ h2 => by rw [q1 j (by omega)])
  refine ax_aload_n dX1_stuffNamed_0 rfl ?_
  refine ax_getf dX1_stuffNamed_1 flX1_11 e71 rfl ?_
  refine ax_aload_n dX1_stuffNamed_4 rfl ?_
  refine ax_getf dX1_stuffNamed_5 flX1_55 e71 rfl ?_
  refine ax_lload_n dX1_stuffNamed_8 rfl ?_
  refine ax_cS dX1_stuffNamed_9 mmX1_numberOf lkX1_81 mtX1_numberOf rfl rfl (Nat.le_of_ble_eq_true rfl) (Nat.le_of_ble_eq_true rfl) rfl rfl (c_numberOf (d := d) e72 hB.1 (by omega) ⟨_, rfl, ?_⟩)
  rw [e]
  exact ax_ireturn dX1_stuffNamed_12 rfl hq
theorem c_placeNamed {v : Int64} (hD : Dr h N H sn pn cs lb le hl) (hB : DrB N cs lb le) (hq : Q (.inl (some (.int (on (nmOf pn (nP N) v))))) h) : X G (d + 1) mX1_placeNamed 0 (ax_in 3 [.ref 71, .long v]) [] h Q := by
  obtain ⟨e71, -, ⟨f1, e73, q1⟩, -⟩ := id hD
  have e : nmOf f1 (nP N) v = nmOf pn (nP N) v := fst_cong _ _ (fun j _ h2 => by rw [q1 j (by omega)])
  refine ax_aload_n dX1_placeNamed_0 rfl ?_
  refine ax_getf dX1_placeNamed_1 flX1_17 e71 rfl ?_
  refine ax_aload_n dX1_placeNamed_4 rfl ?_
  refine ax_getf dX1_placeNamed_5 flX1_59 e71 rfl ?_
  refine ax_lload_n dX1_placeNamed_8 rfl ?_
  refine ax_cS dX1_placeNamed_9 mmX1_numberOf lkX1_81 mtX1_numberOf rfl rfl (Nat.le_of_ble_eq_true rfl) (Nat.le_of_ble_eq_true rfl) rfl rfl (c_numberOf (d := d) e73 hB.2.1 (by omega) ⟨_, rfl, ?_⟩)
  rw [e]
  exact ax_ireturn dX1_placeNamed_12 rfl hq
theorem c_hasLaw {l : Nat} (hl3 : l < 3) (hD : Dr h N H sn pn cs lb le hl) (hB : DrB N cs lb le) (hq : Q (.inl (some (.int (b1 (lb l < le l))))) h) : X G d mX1_hasLaw 0 (ax_in 2 [.ref 71, .int (nI l)]) [] h Q := by
  obtain ⟨e71, -, -, -, -, -, -, -, -, -, -, ⟨f1, e86, q1⟩, ⟨f2, e87, q2⟩, -⟩ := id hD
  obtain ⟨b1', b2'⟩ := hB.2.2.2.2.2 l hl3
  refine ax_aload_n dX1_hasLaw_0 rfl ?_
  refine ax_getf dX1_hasLaw_1 flX1_52 e71 rfl ?_
  refine ax_iload_n dX1_hasLaw_4 rfl ?_
  refine ax_iald dX1_hasLaw_5 e87 (ax_ix_nI hl3 (by decide)) ?_
  rw [q2 l hl3]
  refine ax_aload_n dX1_hasLaw_6 rfl ?_
  refine ax_getf dX1_hasLaw_7 flX1_49 e71 rfl ?_
  refine ax_iload_n dX1_hasLaw_10 rfl ?_
  refine ax_iald dX1_hasLaw_11 e86 (ax_ix_nI hl3 (by decide)) ?_
  rw [q1 l hl3]
  by_cases hc : lb l < le l
  · rw [b1_t hc] at hq
    refine ax_icmp_leF 19 dX1_hasLaw_12 (by decide) (nI_ge hc (by omega)) ?_
    refine ax_iconst dX1_hasLaw_15 (v := nI 1) (by decide) ?_
    refine ax_goto 20 dX1_hasLaw_16 (by decide) ?_
    exact ax_zreturn dX1_hasLaw_20 rfl (Or.inr rfl) hq
  · rw [b1_f hc] at hq
    refine ax_icmp_leT 19 dX1_hasLaw_12 (by decide) (nI_le (by omega) (by omega)) ?_
    refine ax_iconst dX1_hasLaw_19 (v := nI 0) (by decide) ?_
    exact ax_zreturn dX1_hasLaw_20 rfl (Or.inl rfl) hq
/-- heedsLoad behind a step -/
def hlN (hl : Int32) (c : Nat) : Int32 := if hl = 0 then (if c = 4 then nI 1 else nI 0) else nI 1
theorem c_emit {c : Nat} (hc : c < 2 ^ 20) (hl1 : cs.length < 1003) (hD : Dr h N H sn pn cs lb le hl) (hq : ∀ h', But h h' (fun j => j = 71 ∨ j = 85) → Dr h' N H sn pn (cs ++ [c]) lb le (hlN hl c) → Q (.inl none) h') : X G d mX1_emit 0 (ax_in 2 [.ref 71, .int (nI c)]) [] h Q := by
  obtain ⟨e71, ⟨f1, e1, q1⟩, ⟨f2, e2, q2⟩, a1, a2, a3, a4, a5, a6, a7, ⟨C, e85, q3⟩, a8, a9, h01, h4⟩ := id hD
  have hlen : (cs ++ [c]).length = cs.length + 1 := by rw [List.length_append]; rfl
  have fin : ∀ (h1 : ax_H), (∀ j, j ≠ 71 → j ≠ 85 → h1.2.2 j = h.2.2 j) → h1.2.2 71 = some (eNet 71 (nI (nS N)) (nI (nP N)) (nI (nR N)) (nI (cs.length + 1)) (hlN hl c)) → h1.2.2 85 = some (eI 1003 (upd C cs.length (nI c))) → Dr h1 N H sn pn (cs ++ [c]) lb le (hlN hl c) := by
    intro h1 kp g71 g85
    refine ⟨by rw [hlen]; exact g71, ⟨f1, (kp _ (by decide) (by decide)).trans e1, q1⟩, ⟨f2, (kp _ (by decide) (by decide)).trans e2, q2⟩, a1.kept (kp _ (by decide) (by decide)), a2.kept (kp _ (by decide) (by decide)), a3.kept (kp _ (by decide) (by decide)), a4.kept (kp _ (by decide) (by decide)), a5.kept (kp _ (by decide) (by decide)), a6.kept (kp _ (by decide) (by decide)), a7.kept (fun j z1 z2 => kp j (by omega) (by omega)), ⟨_, g85, fun i hi => ?_⟩, a8.kept (kp _ (by decide) (by decide)), a9.kept (kp _ (by decide) (by decide)), ?_, ?_⟩
    · rw [hlen] at hi
      rw [getD_app hi]
      unfold upd
      by_cases hi2 : i = cs.length
      · rw [if_pos hi2, if_pos (by omega)]
      · rw [if_neg hi2, if_neg (by omega)]; exact q3 i (by omega)
    · unfold hlN
      split
      · split
        · exact Or.inr rfl
        · exact Or.inl rfl
      · exact Or.inr rfl
    · intro hz hm
      unfold hlN at hz
      by_cases h0 : hl = 0
      · rw [if_pos h0] at hz
        by_cases hc4 : c = 4
        · rw [if_pos hc4] at hz; exact absurd hz (by decide)
        · rcases List.mem_append.mp hm with q | q
          · exact h4 h0 q
          · exact hc4 (List.mem_singleton.mp q).symm
      · rw [if_neg h0] at hz; exact absurd hz (by decide)
  refine ax_aload_n dX1_emit_0 rfl ?_
  refine ax_getf dX1_emit_1 flX1_74 e71 rfl ?_
  refine ax_sipush dX1_emit_4 (v := nI 1003) (by decide) ?_
  refine ax_icmp_geF 30 dX1_emit_7 (by decide) (nI_ge hl1 (by omega)) ?_
  refine ax_aload_n dX1_emit_10 rfl ?_
  refine ax_getf dX1_emit_11 flX1_46 e71 rfl ?_
  refine ax_aload_n dX1_emit_14 rfl ?_
  refine ax_getf dX1_emit_15 flX1_74 e71 rfl ?_
  refine ax_iload_n dX1_emit_18 rfl ?_
  refine ax_iast dX1_emit_19 e85 (ax_ix_nI hl1 (by decide)) ?_
  refine ax_aload_n dX1_emit_20 rfl ?_
  refine ax_dup dX1_emit_21 rfl ?_
  refine ax_getf dX1_emit_22 flX1_74 ((ax_wr_ne (by decide)).trans (e71)) rfl ?_
  refine ax_iconst dX1_emit_25 (v := nI 1) (by decide) ?_
  refine ax_iadd dX1_emit_26 ?_
  refine ax_putf dX1_emit_27 flX1_74 ((ax_wr_ne (by decide)).trans (e71)) (Nat.le_of_ble_eq_true rfl) (fun _ => ⟨rfl, rfl⟩) ?_
  rw [nI_add]
  have kp : ∀ (e5 e7 : ax_E) j, j ≠ 71 → j ≠ 85 → (ax_wr (ax_wr h 85 e5) 71 e7).2.2 j = h.2.2 j := fun e5 e7 j z1 z2 => (ax_wr_ne z1).trans (ax_wr_ne z2)
  have hbb : ∀ (e5 e7 : ax_E), But h (ax_wr (ax_wr h 85 e5) 71 e7) (fun j => j = 71 ∨ j = 85) := fun e5 e7 => (But.rf.wr (Or.inr rfl)).wr (Or.inl rfl)
  by_cases h0 : hl = 0
  · subst h0
    refine ax_aload_n dX1_emit_30 rfl ?_
    refine ax_aload_n dX1_emit_31 rfl ?_
    refine ax_getf dX1_emit_32 flX1_77 ax_wr_eq rfl ?_
    refine ax_if_neF 43 dX1_emit_35 (by decide) rfl ?_
    by_cases hc4 : c = 4
    · have eh : hlN 0 c = nI 1 := by unfold hlN; rw [if_pos rfl, if_pos hc4]
      refine ax_iload_n dX1_emit_38 rfl ?_
      refine ax_iconst dX1_emit_39 (v := nI 4) (by decide) ?_
      refine ax_icmp_neF 47 dX1_emit_40 (by decide) (by rw [hc4]) ?_
      refine ax_iconst dX1_emit_43 (v := nI 1) (by decide) ?_
      refine ax_goto 48 dX1_emit_44 (by decide) ?_
      refine ax_putf dX1_emit_48 flX1_77 ax_wr_eq (Nat.le_of_ble_eq_true rfl) (nar_b (Or.inr rfl)) ?_
      rw [ax_wr_wr]
      exact ax_return dX1_emit_51 rfl (hq _ (hbb _ _) (fin _ (kp _ _) (by rw [eh]; exact ax_wr_eq) ((ax_wr_ne (by decide)).trans ax_wr_eq)))
    · have eh : hlN 0 c = nI 0 := by unfold hlN; rw [if_pos rfl, if_neg hc4]
      refine ax_iload_n dX1_emit_38 rfl ?_
      refine ax_iconst dX1_emit_39 (v := nI 4) (by decide) ?_
      refine ax_icmp_neT 47 dX1_emit_40 (by decide) (fun q => hc4 ((nI_eq (by omega) (by omega)).mp q)) ?_
      refine ax_iconst dX1_emit_47 (v := nI 0) (by decide) ?_
      refine ax_putf dX1_emit_48 flX1_77 ax_wr_eq (Nat.le_of_ble_eq_true rfl) (nar_b (Or.inl rfl)) ?_
      rw [ax_wr_wr]
      exact ax_return dX1_emit_51 rfl (hq _ (hbb _ _) (fin _ (kp _ _) (by rw [eh]; exact ax_wr_eq) ((ax_wr_ne (by decide)).trans ax_wr_eq)))
  · have eh : hlN hl c = nI 1 := by unfold hlN; rw [if_neg h0]
    refine ax_aload_n dX1_emit_30 rfl ?_
    refine ax_aload_n dX1_emit_31 rfl ?_
    refine ax_getf dX1_emit_32 flX1_77 ax_wr_eq rfl ?_
    refine ax_if_neT 43 dX1_emit_35 (by decide) h0 ?_
    refine ax_iconst dX1_emit_43 (v := nI 1) (by decide) ?_
    refine ax_goto 48 dX1_emit_44 (by decide) ?_
    refine ax_putf dX1_emit_48 flX1_77 ax_wr_eq (Nat.le_of_ble_eq_true rfl) (nar_b (Or.inr rfl)) ?_
    rw [ax_wr_wr]
    exact ax_return dX1_emit_51 rfl (hq _ (hbb _ _) (fin _ (kp _ _) (by rw [eh]; exact ax_wr_eq) ((ax_wr_ne (by decide)).trans ax_wr_eq)))
end NE
