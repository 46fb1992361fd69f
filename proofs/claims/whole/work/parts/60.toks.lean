/-! ===== what the tokens of a tape are like ===== -/
section TQ
theorem kof_ne2 (key : Int64) : kof key ≠ 2 := by
  unfold kof
  split
  · rename_i i hi
    intro h2
    subst h2
    have h1 := (fst_lt hi).2.2
    have h3 : tk_key.getD 2 0 = key := eq_of_beq h1
    have h0 : (tk_key.getD 0 0 == key) = true := by rw [← h3]; decide
    unfold fst at hi
    rw [if_pos h0] at hi
    cases hi
  · split <;> omega
theorem tW_all {P : Nat → Bool} : ∀ (l : List Nat), ∀ c ∈ l.takeWhile P, P c = true
  | [], c, hc => by cases hc
  | a :: l, c, hc => by
    by_cases ha : P a = true
    · rw [List.takeWhile_cons_of_pos ha] at hc
      rcases List.mem_cons.mp hc with rfl | q
      · exact ha
      · exact tW_all l c q
    · rw [List.takeWhile_cons_of_neg ha] at hc; cases hc
def nval (w : List Nat) : Nat := w.foldl (fun n c => n * 10 + (c - 48)) 0
theorem nval_fold : ∀ (w : List Nat) (n : Nat), (∀ c ∈ w, isD c = true) → w.foldl (fun (n : Int32) c => n * nI 10 + nI c - nI 48) (nI n) = nI (w.foldl (fun n c => n * 10 + (c - 48)) n) ∧ w.foldl (fun n c => n * 10 + (c - 48)) n + 1 ≤ (n + 1) * 10 ^ w.length
  | [], n, _ => ⟨rfl, by show n + 1 ≤ (n + 1) * 1; omega⟩
  | c :: w, n, hw => by
    have hc := of_decide_eq_true (hw c List.mem_cons_self)
    have h1 : nI n * nI 10 + nI c - nI 48 = nI (n * 10 + (c - 48)) := by
      rw [pk_mul, nI_add, pk_sub (by omega)]
      congr 1
      omega
    obtain ⟨i1, i2⟩ := nval_fold w (n * 10 + (c - 48)) (fun q hq => hw q (List.mem_cons_of_mem _ hq))
    refine ⟨?_, ?_⟩
    · show w.foldl _ (nI n * nI 10 + nI c - nI 48) = _
      rw [h1]; exact i1
    · show w.foldl _ (n * 10 + (c - 48)) + 1 ≤ _
      refine Nat.le_trans i2 ?_
      rw [List.length_cons, Nat.pow_succ, Nat.mul_comm (10 ^ w.length) 10, ← Nat.mul_assoc]
      exact Nat.mul_le_mul_right _ (by omega)
theorem nkey_val {w : List Nat} (hw : ∀ c ∈ w, isD c = true) (hl : w.length ≤ 4) : nkey w = nI (nval w) ∧ nval w ≤ 9999 := by
  obtain ⟨h1, h2⟩ := nval_fold w 0 hw
  refine ⟨h1, ?_⟩
  have h3 : 10 ^ w.length ≤ 10 ^ 4 := Nat.pow_le_pow_right (by decide) hl
  have h4 : nval w + 1 ≤ (0 + 1) * 10 ^ w.length := h2
  omega
/-- a token as it is cut -/
def tk3 (t : TK3) : Prop := (t.2.1 = 0 ∧ (∀ c ∈ t.2.2, isL c = true) ∧ t.2.2 ≠ []) ∨ (t.2.1 = 1 ∧ (∀ c ∈ t.2.2, isD c = true) ∧ t.2.2 ≠ []) ∨ (t.2.1 = 2 ∧ ∃ c, t.2.2 = [c] ∧ okS c ∧ isB c = false ∧ isL c = false ∧ isD c = false)
theorem cutT_all : ∀ (n a : Nat) (l : List Nat), (∀ c ∈ l, okS c) → (cutT n a l).length ≤ n ∧ ∀ t ∈ cutT n a l, (a ≤ t.1 ∧ t.1 < a + l.length) ∧ tk3 t
  | 0, a, l, _ => ⟨Nat.le_refl _, fun t ht => by cases ht⟩
  | n + 1, a, [], _ => ⟨Nat.zero_le _, fun t ht => by cases ht⟩
  | n + 1, a, c :: r, ho => by
    have hr : ∀ c ∈ r, okS c := fun q hq => ho q (List.mem_cons_of_mem _ hq)
    have step : ∀ (P : Nat → Bool), P c = true → ∀ t ∈ cutT n (a + ((c :: r).takeWhile P).length) ((c :: r).drop ((c :: r).takeWhile P).length), (a ≤ t.1 ∧ t.1 < a + (c :: r).length) ∧ tk3 t := by
      intro P hP t ht
      obtain ⟨-, ih⟩ := cutT_all n (a + ((c :: r).takeWhile P).length) ((c :: r).drop ((c :: r).takeWhile P).length) (fun q hq => ho q (List.mem_of_mem_drop hq))
      obtain ⟨⟨b1, b2⟩, b3⟩ := ih t ht
      rw [List.length_drop] at b2
      have := tW_le (P := P) (c :: r)
      exact ⟨⟨by omega, by omega⟩, b3⟩
    unfold cutT
    split
    · obtain ⟨i1, i2⟩ := cutT_all n (a + 1) r hr
      refine ⟨by omega, fun t ht => ?_⟩
      obtain ⟨⟨b1, b2⟩, b3⟩ := i2 t ht
      exact ⟨⟨by omega, by rw [List.length_cons]; omega⟩, b3⟩
    · rename_i hB
      split
      · rename_i hL
        refine ⟨?_, fun t ht => ?_⟩
        · have := (cutT_all n (a + ((c :: r).takeWhile isL).length) ((c :: r).drop ((c :: r).takeWhile isL).length) (fun q hq => ho q (List.mem_of_mem_drop hq))).1
          rw [List.length_cons]; omega
        · rcases List.mem_cons.mp ht with rfl | q
          · refine ⟨⟨Nat.le_refl _, by rw [List.length_cons]; show a < _; omega⟩, Or.inl ⟨rfl, tW_all _, ?_⟩⟩
            show (c :: r).takeWhile isL ≠ []
            rw [List.takeWhile_cons_of_pos hL]; exact List.cons_ne_nil _ _
          · exact step isL hL t q
      · rename_i hL
        split
        · rename_i hD
          refine ⟨?_, fun t ht => ?_⟩
          · have := (cutT_all n (a + ((c :: r).takeWhile isD).length) ((c :: r).drop ((c :: r).takeWhile isD).length) (fun q hq => ho q (List.mem_of_mem_drop hq))).1
            rw [List.length_cons]; omega
          · rcases List.mem_cons.mp ht with rfl | q
            · refine ⟨⟨Nat.le_refl _, by rw [List.length_cons]; show a < _; omega⟩, Or.inr (Or.inl ⟨rfl, tW_all _, ?_⟩)⟩
              show (c :: r).takeWhile isD ≠ []
              rw [List.takeWhile_cons_of_pos hD]; exact List.cons_ne_nil _ _
            · exact step isD hD t q
        · rename_i hD
          obtain ⟨i1, i2⟩ := cutT_all n (a + 1) r hr
          refine ⟨by rw [List.length_cons]; omega, fun t ht => ?_⟩
          rcases List.mem_cons.mp ht with rfl | q
          · exact ⟨⟨Nat.le_refl _, by rw [List.length_cons]; show a < _; omega⟩, Or.inr (Or.inr ⟨rfl, c, rfl, ho c List.mem_cons_self, Bool.eq_false_iff.mpr hB, Bool.eq_false_iff.mpr hL, Bool.eq_false_iff.mpr hD⟩)⟩
          · obtain ⟨⟨b1, b2⟩, b3⟩ := i2 t q
            exact ⟨⟨by omega, by rw [List.length_cons]; omega⟩, b3⟩
theorem cutA_at {tp : List Nat} {i : Nat} (hi : i < (cutA tp).length) : (i = (cutT 1000 0 tp).length ∧ ctAt (cutA tp) i = (0, tp.length, lN 0)) ∨ (i < (cutT 1000 0 tp).length ∧ ∃ t ∈ cutT 1000 0 tp, (cutT 1000 0 tp)[i]? = some t ∧ ctAt (cutA tp) i = ctk t) := by
  unfold cutA at hi ⊢
  rw [List.length_append, List.length_map, List.length_singleton] at hi
  have e := ctAt_app (ts := (cutT 1000 0 tp).map ctk) (t := (0, tp.length, lN 0)) (j := i) (by rw [List.length_map]; exact hi)
  rw [List.length_map] at e
  rw [e]
  by_cases hc : i = (cutT 1000 0 tp).length
  · rw [if_pos hc]; exact Or.inl ⟨hc, rfl⟩
  · rw [if_neg hc]
    refine Or.inr ⟨by omega, ?_⟩
    have hi2 : i < (cutT 1000 0 tp).length := by omega
    refine ⟨(cutT 1000 0 tp)[i], List.getElem_mem hi2, List.getElem?_eq_getElem hi2, ?_⟩
    unfold ctAt
    rw [List.getD_eq_getElem?_getD, List.getElem?_map, List.getElem?_eq_getElem hi2]
    rfl
theorem cutA_ok {tp : List Nat} (hl : tp.length ≤ 1000) (ho : ∀ s ∈ tp, okS s) : tsOK (cutA tp) ∧ tsN (cutA tp) := by
  obtain ⟨c1, c2⟩ := cutT_all 1000 0 tp ho
  refine ⟨⟨?_, fun i hi => ?_⟩, fun i hi h2 => ?_⟩
  · unfold cutA
    rw [List.length_append, List.length_map, List.length_singleton]
    omega
  · rcases cutA_at hi with ⟨-, e⟩ | ⟨-, t, ht, -, e⟩
    · unfold kA pA
      rw [e]
      exact ⟨by show (0 : Nat) < 31; omega, hl⟩
    · obtain ⟨⟨b1, b2⟩, -⟩ := c2 t ht
      unfold kA pA
      rw [e]
      have hw := wKind_lt t.2.2
      have hk := kof_lt (lgr 0 (t.2.2.headD 0))
      unfold ctk
      split
      · exact ⟨hw, by show t.1 ≤ 1000; omega⟩
      · split
        · refine ⟨?_, by show t.1 ≤ 1000; omega⟩
          show nKind t.2.2 < 31
          unfold nKind
          split <;> omega
        · exact ⟨hk, by show t.1 ≤ 1000; omega⟩
  · rcases cutA_at hi with ⟨-, e⟩ | ⟨-, t, ht, -, e⟩
    · unfold kA at h2
      rw [e] at h2
      cases h2
    · obtain ⟨-, b3⟩ := c2 t ht
      unfold kA at h2
      unfold nA vA
      rw [e] at h2 ⊢
      unfold ctk at h2 ⊢
      by_cases h0 : t.2.1 = 0
      · rw [if_pos h0] at h2
        have h2' : wKind t.2.2 = 2 := h2
        unfold wKind at h2'
        split at h2'
        · cases h2'
        · exact absurd h2' (kof_ne2 _)
      · rw [if_neg h0] at h2 ⊢
        by_cases h1 : t.2.1 = 1
        · rw [if_pos h1] at h2 ⊢
          have h2' : nKind t.2.2 = 2 := h2
          unfold nKind at h2'
          have hl4 : t.2.2.length ≤ 4 := by
            by_cases h4 : 4 < t.2.2.length
            · rw [if_pos h4] at h2'; cases h2'
            · omega
          have hd : ∀ c ∈ t.2.2, isD c = true := by
            rcases b3 with q | q | q
            · exact absurd q.1 h0
            · exact q.2.1
            · rw [h1] at q; exact absurd q.1 (by decide)
          obtain ⟨n1, n2⟩ := nkey_val hd hl4
          show ((nkey t.2.2).toInt64.toInt32 = nI ((nkey t.2.2).toInt64.toInt32).toNatClampNeg) ∧ ((nkey t.2.2).toInt64.toInt32).toNatClampNeg ≤ 9999
          rw [n1, nI_l (by omega), lN_i, nI_clamp (by omega)]
          exact ⟨rfl, n2⟩
        · rw [if_neg h1] at h2
          exact absurd h2 (kof_ne2 _)
end TQ
