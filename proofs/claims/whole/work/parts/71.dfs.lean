/-! ===== the model's search finds the finder's way (pure) ===== -/
section DF
variable {N : Nt} {p : Nat → Nat} {t : Nat} {w : Nat → Bool}
/-- roads below n, each in its turn -/
def gdR (N : Nt) (w : Nat → Bool) (a met : Nat) (F : Nat → Nat → Nat × List Nat → Nat × List Nat) : Nat → Nat × List Nat → Nat × List Nat
  | 0, s => s
  | r + 1, s => match oth N r a with
    | none => gdR N w a met F r s
    | some o => if w r = false ∧ met.testBit o = false then F r o (gdR N w a met F r s) else gdR N w a met F r s
/-- the search: the best price (with the number of roads below it) and row so far -/
def gdS (N : Nt) (p : Nat → Nat) (w : Nat → Bool) (t : Nat) : Nat → Nat → Nat → List Nat → Nat → Nat × List Nat → Nat × List Nat
  | 0, _, _, _, _, s => s
  | f + 1, a, met, row, k, s => if s.1 ≤ k then s else if a = t then (k, row) else gdR N w a met (fun r o s' => gdS N p w t f o (met ||| 1 <<< o) (row ++ [r]) (k + p r) s') (nR N) s
def cn (m : Nat) : Nat := (List.range 7).countP (fun x => !m.testBit x)
theorem cn_or : ∀ m : Nat, m < 128 → ∀ o : Nat, o < 7 → m.testBit o = false → cn (m ||| 1 <<< o) + 1 = cn m ∧ m ||| 1 <<< o < 128 := by decide +kernel
theorem tb_or : ∀ m : Nat, m < 128 → ∀ o : Nat, o < 7 → ∀ x : Nat, x < 7 → (m ||| 1 <<< o).testBit x = (m.testBit x || x == o) := by decide +kernel
theorem fst_min {P : Nat → Bool} {r : Nat} : ∀ {m i : Nat}, fst P i m = some r → ∀ j, i ≤ j → j < r → P j = false
  | 0, i, h => by cases h
  | m + 1, i, h => by
    unfold fst at h
    intro j h1 h2
    split at h
    · cases h; omega
    · rename_i hp
      by_cases q : j = i
      · rw [q]; simpa using hp
      · exact fst_min h j (by omega) h2
theorem fst_some {P : Nat → Bool} {r : Nat} : ∀ {m i : Nat}, i ≤ r → r < i + m → P r = true → ∃ r', fst P i m = some r'
  | 0, i, h1, h2, _ => by omega
  | m + 1, i, h1, h2, h3 => by
    unfold fst
    by_cases hp : P i = true
    · rw [if_pos hp]; exact ⟨i, rfl⟩
    · rw [if_neg hp]
      by_cases q : i = r
      · rw [q] at hp; exact absurd h3 hp
      · exact fst_some (by omega) (by omega) h3
/-- nothing that it finds is cheaper than the finder's price -/
theorem gdS_low {B : Nat → Nat} (hB : ∀ r a o, r < nR N → oth N r a = some o → B a ≤ B o + p r) (hBt : B t = 0) : ∀ (f a met : Nat) (row : List Nat) (k : Nat) (s : Nat × List Nat), gdS N p w t f a met row k s = s ∨ (k + B a ≤ (gdS N p w t f a met row k s).1 ∧ (gdS N p w t f a met row k s).1 < s.1)
  | 0, _, _, _, _, _ => Or.inl rfl
  | f + 1, a, met, row, k, s => by
    unfold gdS
    by_cases h1 : s.1 ≤ k
    · rw [if_pos h1]; exact Or.inl rfl
    · rw [if_neg h1]
      by_cases h2 : a = t
      · rw [if_pos h2]
        right
        rw [h2, hBt]
        exact ⟨Nat.le_refl _, by show k < s.1; omega⟩
      · rw [if_neg h2]
        have key : ∀ n, n ≤ nR N → gdR N w a met (fun r o s' => gdS N p w t f o (met ||| 1 <<< o) (row ++ [r]) (k + p r) s') n s = s ∨ (k + B a ≤ (gdR N w a met (fun r o s' => gdS N p w t f o (met ||| 1 <<< o) (row ++ [r]) (k + p r) s') n s).1 ∧ (gdR N w a met (fun r o s' => gdS N p w t f o (met ||| 1 <<< o) (row ++ [r]) (k + p r) s') n s).1 < s.1) := by
          intro n
          induction n with
          | zero => intro _; exact Or.inl rfl
          | succ n ih =>
            intro hn
            have ih := ih (by omega)
            unfold gdR
            cases ho : oth N n a with
            | none => exact ih
            | some o =>
              dsimp only
              split
              · have hb := hB n a o (by omega) ho
                rcases gdS_low hB hBt f o (met ||| 1 <<< o) (row ++ [n]) (k + p n) (gdR N w a met (fun r o s' => gdS N p w t f o (met ||| 1 <<< o) (row ++ [r]) (k + p r) s') n s) with e | ⟨e1, e2⟩
                · rw [e]; exact ih
                · right
                  rcases ih with e | ⟨e3, e4⟩
                  · rw [e] at e1 e2 ⊢
                    exact ⟨by omega, e2⟩
                  · exact ⟨by omega, by omega⟩
              · exact ih
        exact key (nR N) (Nat.le_refl _)
/-- what it finds is no dearer than its roads can be -/
theorem gdS_up {c : Nat} (hp : ∀ r, r < nR N → w r = false → p r ≤ c) : ∀ (f a met : Nat) (row : List Nat) (k : Nat) (s : Nat × List Nat), gdS N p w t f a met row k s = s ∨ (gdS N p w t f a met row k s).1 ≤ k + c * f
  | 0, _, _, _, _, _ => Or.inl rfl
  | f + 1, a, met, row, k, s => by
    unfold gdS
    by_cases h1 : s.1 ≤ k
    · rw [if_pos h1]; exact Or.inl rfl
    · rw [if_neg h1]
      by_cases h2 : a = t
      · rw [if_pos h2]
        right
        exact Nat.le_add_right _ _
      · rw [if_neg h2]
        have key : ∀ n, n ≤ nR N → gdR N w a met (fun r o s' => gdS N p w t f o (met ||| 1 <<< o) (row ++ [r]) (k + p r) s') n s = s ∨ (gdR N w a met (fun r o s' => gdS N p w t f o (met ||| 1 <<< o) (row ++ [r]) (k + p r) s') n s).1 ≤ k + c * (f + 1) := by
          intro n
          induction n with
          | zero => intro _; exact Or.inl rfl
          | succ n ih =>
            intro hn
            have ih := ih (by omega)
            unfold gdR
            cases ho : oth N n a with
            | none => exact ih
            | some o =>
              dsimp only
              split
              · rename_i hw
                have := hp n (by omega) hw.1
                rcases gdS_up hp f o (met ||| 1 <<< o) (row ++ [n]) (k + p n) (gdR N w a met (fun r o s' => gdS N p w t f o (met ||| 1 <<< o) (row ++ [r]) (k + p r) s') n s) with e | e
                · rw [e]; exact ih
                · right
                  rw [Nat.mul_succ]
                  omega
              · exact ih
        exact key (nR N) (Nat.le_refl _)
/-- where the finder's price is below the best so far, the search finds the finder's row -/
theorem gdS_hit (hN : okE N) {B : Nat → Nat} (hB : ∀ r a o, r < nR N → oth N r a = some o → B a ≤ B o + p r) (hBt : B t = 0) (hR : ∀ a, a ≠ t → B a < 536870912 → ∃ r o, r < nR N ∧ oth N r a = some o ∧ B o + p r = B a) (hp1 : ∀ r, 1 ≤ p r) (hw : ∀ r, w r = true → p r = 536870912) :
    ∀ (f a met : Nat) (row : List Nat) (k : Nat) (s : Nat × List Nat), a < 7 → met < 128 → f = cn met + 1 → B a < 536870912 → k + B a < s.1 → (∀ x, x < 7 → met.testBit x = true → B a ≤ B x) → gdS N p w t f a met row k s = (k + B a, row ++ (wkN N p B t f (some a)).1) ∧ (wkN N p B t f (some a)).2 = some t
  | 0, _, _, _, _, _, _, _, hf, _, _, _ => by omega
  | f + 1, a, met, row, k, s, ha, hm, hf, hF, hk, hmet => by
    unfold gdS wkN
    rw [if_neg (by omega)]
    by_cases h2 : a = t
    · rw [if_pos h2, if_pos h2]
      refine ⟨?_, by rw [h2]⟩
      rw [h2, hBt, Nat.add_zero, List.append_nil]
    · rw [if_neg h2, if_neg h2]
      obtain ⟨r9, o9, hr9, ho9, e9⟩ := hR a h2 hF
      obtain ⟨r, hr⟩ := fst_some (P := frs N p B a) (m := nR N) (i := 0) (r := r9) (Nat.zero_le _) (by omega) (by unfold frs; rw [ho9]; simpa using e9)
      obtain ⟨-, hrn, hfr⟩ := fst_lt hr
      have hmin := fst_min hr
      have hrn' : r < nR N := by omega
      rw [hr]
      unfold frs at hfr
      cases ho : oth N r a with
      | none => rw [ho] at hfr; cases hfr
      | some o =>
        rw [ho] at hfr
        have e : B o + p r = B a := by simpa using hfr
        have hpr := hp1 r
        have ho7 := oth_7 hN hrn' ho
        have hwr : w r = false := by
          cases hc : w r with
          | false => rfl
          | true => have := hw r hc; omega
        have hob : met.testBit o = false := by
          cases hc : met.testBit o with
          | false => rfl
          | true => have := hmet o ho7 hc; omega
        obtain ⟨hcn, hm'⟩ := cn_or met hm o ho7 hob
        have pre : ∀ n, n ≤ r → k + B a < (gdR N w a met (fun r o s' => gdS N p w t f o (met ||| 1 <<< o) (row ++ [r]) (k + p r) s') n s).1 := by
          intro n
          induction n with
          | zero => intro _; exact hk
          | succ n ih =>
            intro hn
            have ih := ih (by omega)
            unfold gdR
            cases ho' : oth N n a with
            | none => exact ih
            | some o' =>
              dsimp only
              split
              · have hb := hB n a o' (by omega) ho'
                have hne : B o' + p n ≠ B a := by
                  have := hmin n (Nat.zero_le _) (by omega)
                  unfold frs at this
                  rw [ho'] at this
                  simpa using this
                rcases gdS_low (w := w) hB hBt f o' (met ||| 1 <<< o') (row ++ [n]) (k + p n) (gdR N w a met (fun r o s' => gdS N p w t f o (met ||| 1 <<< o) (row ++ [r]) (k + p r) s') n s) with e1 | ⟨e1, -⟩
                · rw [e1]; exact ih
                · omega
              · exact ih
        have hit := gdS_hit hN hB hBt hR hp1 hw f o (met ||| 1 <<< o) (row ++ [r]) (k + p r) (gdR N w a met (fun r o s' => gdS N p w t f o (met ||| 1 <<< o) (row ++ [r]) (k + p r) s') r s) ho7 hm' (by omega) (by omega) (by have := pre r (Nat.le_refl _); omega) (fun x hx hxb => by
          rw [tb_or met hm o ho7 x hx] at hxb
          rcases Bool.or_eq_true _ _ ▸ hxb with q | q
          · have := hmet x hx q; omega
          · rw [show x = o by simpa using q]; exact Nat.le_refl _)
        have suf : ∀ n, r < n → n ≤ nR N → gdR N w a met (fun r o s' => gdS N p w t f o (met ||| 1 <<< o) (row ++ [r]) (k + p r) s') n s = (k + B a, row ++ (r :: (wkN N p B t f (some o)).1)) := by
          intro n
          induction n with
          | zero => intro h; omega
          | succ n ih =>
            intro hn hn'
            by_cases q : n = r
            · subst q
              unfold gdR
              rw [ho]
              dsimp only
              rw [if_pos ⟨hwr, hob⟩, hit.1, List.append_assoc]
              refine Prod.ext ?_ rfl
              show k + p n + B o = k + B a
              omega
            · have ih := ih (by omega) (by omega)
              unfold gdR
              cases ho' : oth N n a with
              | none => exact ih
              | some o' =>
                dsimp only
                split
                · have hb := hB n a o' (by omega) ho'
                  rw [ih]
                  rcases gdS_low (w := w) hB hBt f o' (met ||| 1 <<< o') (row ++ [n]) (k + p n) (k + B a, row ++ (r :: (wkN N p B t f (some o)).1)) with e1 | ⟨e1, e2⟩
                  · exact e1
                  · have e2' : _ < k + B a := e2
                    omega
                · exact ih
        have := suf (nR N) hrn' (Nat.le_refl _)
        rw [this]
        dsimp only
        rw [ho]
        exact ⟨rfl, hit.2⟩
/-- the search from f to t finds the finder's way, or neither finds one -/
theorem gdS_wy (hN : okE N) (hp1 : ∀ r, 1 ≤ p r) (hw : ∀ r, w r = true → p r = 536870912) (hp2 : ∀ r, r < nR N → w r = false → p r ≤ 159985) {a : Nat} (ha : a < 7) :
    ((wy N p a t).2 = some t ∧ (bfN N p t 7).1 a < 1200000 ∧ gdS N p w t 7 a (1 <<< a) [] 0 (1600000000, []) = ((bfN N p t 7).1 a, (wy N p a t).1)) ∨ (¬ (wy N p a t).2 = some t ∧ gdS N p w t 7 a (1 <<< a) [] 0 (1600000000, []) = (1600000000, [])) := by
  have hB := bf_end (p := p) (t := t) hN
  have hBt : (bfN N p t 7).1 t = 0 := bf_t
  have h1 : ∀ a : Nat, a < 7 → cn (1 <<< a) = 6 ∧ 1 <<< a < 128 ∧ ∀ x : Nat, x < 7 → (1 <<< a).testBit x = true → x = a := by decide +kernel
  obtain ⟨c1, c2, c3⟩ := h1 a ha
  have low := gdS_low (w := w) hB hBt 7 a (1 <<< a) [] 0 (1600000000, [])
  have up := gdS_up (t := t) (w := w) hp2 7 a (1 <<< a) [] 0 (1600000000, [])
  by_cases hF : (bfN N p t 7).1 a < 536870912
  · left
    have hit := gdS_hit hN hB hBt (fun a ha hf => bf_road hN ha hf) hp1 hw 7 a (1 <<< a) [] 0 (1600000000, []) ha c2 (by rw [c1]) hF (by show 0 + _ < 1600000000; omega) (fun x hx hxb => by rw [c3 x hx hxb]; exact Nat.le_refl _)
    have e : wy N p a t = wkN N p (bfN N p t 7).1 t 7 (some a) := by unfold wy; rw [if_pos hF]
    rw [e]
    have h3 : gdS N p w t 7 a (1 <<< a) [] 0 (1600000000, []) = ((bfN N p t 7).1 a, (wkN N p (bfN N p t 7).1 t 7 (some a)).1) := by rw [hit.1, Nat.zero_add, List.nil_append]
    refine ⟨hit.2, ?_, h3⟩
    rw [h3] at up
    rcases up with q | q
    · have q1 : (bfN N p t 7).1 a = 1600000000 := congrArg Prod.fst q
      omega
    · have q1 : (bfN N p t 7).1 a ≤ 0 + 159985 * 7 := q
      omega
  · right
    have e : wy N p a t = ([], none) := by unfold wy; rw [if_neg hF]; rfl
    refine ⟨(by rw [e]; intro q; cases q), ?_⟩
    rcases low with q | ⟨q, -⟩
    · exact q
    · rcases up with z | z
      · exact z
      · omega
end DF
