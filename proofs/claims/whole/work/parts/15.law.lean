/-! ===== laws: what a row of steps comes to ===== -/
def jn (c : Nat) (x y : Int32) : Int32 :=
  if c = 9 then b1 (¬ x = 0 ∧ ¬ y = 0) else if c = 10 then b1 (¬ x = 0 ∨ ¬ y = 0) else if c = 11 then b1 (¬ y ≤ x) else if c = 12 then b1 (x = y) else if c = 13 then x + y else if c = 14 then x - y else if c = 15 then x * y else 0
def okc : List Nat → Nat → Prop
  | [], t => t = 1
  | c :: cs, t => c < 12000 ∧ ((c < 8 ∨ 16 ≤ c) → t < 32 ∧ okc cs (t + 1)) ∧ (c = 8 → 1 ≤ t ∧ okc cs t) ∧ ((8 < c ∧ c < 16) → 2 ≤ t ∧ okc cs (t - 1))
def rs (F : Nat → Int32) : List Nat → (Nat → Int32) → Nat → (Nat → Int32)
  | [], K, _ => K
  | c :: cs, K, t => if c < 8 then rs F cs (upd K t (F c)) (t + 1) else if 16 ≤ c then rs F cs (upd K t (nI (c - 16))) (t + 1) else if c = 8 then rs F cs (upd K (t - 1) (b1 (K (t - 1) = 0))) t else rs F cs (upd K (t - 2) (jn c (K (t - 2)) (K (t - 1)))) (t - 1)
/-- what lies above the top doesn't matter -/
theorem rs_same (F : Nat → Int32) : ∀ (cs : List Nat) (K K' : Nat → Int32) (t : Nat), okc cs t → (∀ i, i < t → K i = K' i) → rs F cs K t 0 = rs F cs K' t 0
  | [], K, K', t, ho, hk => hk 0 (by have : t = 1 := ho; omega)
  | c :: cs, K, K', t, ho, hk => by
    obtain ⟨-, h1, h2, h3⟩ := ho
    simp only [rs]
    by_cases g1 : c < 8
    · rw [if_pos g1, if_pos g1]
      refine rs_same F cs _ _ _ (h1 (Or.inl g1)).2 fun i hi => ?_
      simp only [upd]
      by_cases hit : i = t
      · simp [hit]
      · simp only [hit, if_false]; exact hk i (by omega)
    · rw [if_neg g1, if_neg g1]
      by_cases g2 : 16 ≤ c
      · rw [if_pos g2, if_pos g2]
        refine rs_same F cs _ _ _ (h1 (Or.inr g2)).2 fun i hi => ?_
        simp only [upd]
        by_cases hit : i = t
        · simp [hit]
        · simp only [hit, if_false]; exact hk i (by omega)
      · rw [if_neg g2, if_neg g2]
        by_cases g3 : c = 8
        · rw [if_pos g3, if_pos g3]
          obtain ⟨k1, k2⟩ := h2 g3
          refine rs_same F cs _ _ _ k2 fun i hi => ?_
          simp only [upd]
          rw [hk (t - 1) (by omega)]
          by_cases hit : i = t - 1
          · simp [hit]
          · simp only [hit, if_false]; exact hk i (by omega)
        · rw [if_neg g3, if_neg g3]
          obtain ⟨k1, k2⟩ := h3 ⟨by omega, by omega⟩
          refine rs_same F cs _ _ _ k2 fun i hi => ?_
          simp only [upd]
          rw [hk (t - 1) (by omega), hk (t - 2) (by omega)]
          by_cases hit : i = t - 2
          · simp [hit]
          · simp only [hit, if_false]; exact hk i (by omega)
/-- what a law comes to, by its facts -/
def ev (cs : List Nat) (F : Nat → Int32) : Int32 := rs F cs (fun _ => 0) 0 0
theorem ev_eq {cs : List Nat} (ho : okc cs 0) (F K : Nat → Int32) : rs F cs K 0 0 = ev cs F := rs_same F cs _ _ 0 ho (fun i hi => by omega)
theorem rs_cong {F F' : Nat → Int32} (hF : ∀ c, c < 8 → F c = F' c) : ∀ (cs : List Nat) (K : Nat → Int32) (t : Nat), rs F cs K t = rs F' cs K t
  | [], K, t => rfl
  | c :: cs, K, t => by
    simp only [rs]
    by_cases g1 : c < 8
    · rw [if_pos g1, if_pos g1, hF c g1, rs_cong hF cs]
    · rw [if_neg g1, if_neg g1]
      by_cases g2 : 16 ≤ c
      · rw [if_pos g2, if_pos g2, rs_cong hF cs]
      · rw [if_neg g2, if_neg g2]
        by_cases g3 : c = 8
        · rw [if_pos g3, if_pos g3, rs_cong hF cs]
        · rw [if_neg g3, if_neg g3, rs_cong hF cs]
theorem ev_cong {cs : List Nat} {F F' : Nat → Int32} (hF : ∀ c, c < 8 → F c = F' c) : ev cs F = ev cs F' := by unfold ev; rw [rs_cong hF]
/-- a law lies in a row of steps from b on -/
def lies (C : Nat → Int32) (b : Nat) (cs : List Nat) : Prop := ∀ i, i < cs.length → C (b + i) = nI (cs.getD i 0)
theorem dropC {l t : List Nat} {k b : Nat} (e : l.drop k = b :: t) : k < l.length ∧ l.getD k 0 = b ∧ l.drop (k + 1) = t := by
  have hk : k < l.length := by
    rcases Nat.lt_or_ge k l.length with q | q
    · exact q
    · rw [List.drop_eq_nil_iff.mpr q] at e; cases e
  have e2 := List.drop_eq_getElem_cons hk
  rw [e2] at e
  injection e with e3 e4
  exact ⟨hk, by rw [List.getD_eq_getElem?_getD, List.getElem?_eq_getElem hk]; exact e3, e4⟩
