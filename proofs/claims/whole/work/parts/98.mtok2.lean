section MTK2
def sgC (s : Nat) : Nat := [40, 41, 59, 60, 61, 43, 45, 42].getD s 0
/-- one token, in both tongues: the constant, the value; the sort, the value -/
def TkF (k : Nat) (v : Int64) (so va : Nat) : Prop := so < 5 ∧ (so = 0 ↔ k = 0) ∧ (so = 2 ↔ k = 2) ∧ (so = 2 → v.toInt32 = nI va ∧ va ≤ 9999) ∧ (∀ s, s < 8 → ((so = 3 ∧ va = sgC s) ↔ k = 4 + s)) ∧ (∀ j, j < 19 → ((so = 1 ∧ va = wv (KW j)) ↔ k = kwK j)) ∧
  (isNm k ↔ so = 1 ∧ ∀ j, j < 16 → va ≠ wv (KW j)) ∧ (isNm k → ∃ w, isLs w ∧ w.length ≤ 8 ∧ va = wv w ∧ v = lN (w5 w)) ∧ va < 2 ^ 50
theorem nv_fold : ∀ (w : List Nat) (n : Nat), (∀ c ∈ w, isD c = true) → w.foldl (fun v c => 10 * v + c - 48) n = w.foldl (fun n c => n * 10 + (c - 48)) n
  | [], _, _ => rfl
  | c :: w, n, hw => by
    have hc := of_decide_eq_true (hw c List.mem_cons_self)
    show w.foldl _ (10 * n + c - 48) = w.foldl _ (n * 10 + (c - 48))
    rw [nv_fold w _ (fun q hq => hw q (List.mem_cons_of_mem _ hq))]
    congr 1
    omega
theorem kwK_on : ∀ k : Nat, 12 ≤ k → k < 28 → ∃ j, j < 16 ∧ kwK j = k := by
  intro k h1 h2
  have h3 : ∀ k : Nat, k < 28 → 12 ≤ k → ∃ j, j < 16 ∧ kwK j = k := by decide +kernel
  exact h3 k h2 h1
theorem kwK_le : ∀ j : Nat, j < 16 → 12 ≤ kwK j ∧ kwK j < 28 := by decide +kernel
theorem kwK_19 : ∀ j : Nat, j < 19 → 12 ≤ kwK j := by decide +kernel
theorem sg_1 : ∀ c : Nat, c < 127 → (isL c = true ∨ c < 10) ∨ kof (lgr 0 c) = 1 ∨ (4 ≤ kof (lgr 0 c) ∧ kof (lgr 0 c) ≤ 11) := by decide +kernel
theorem sg_2 : ∀ c : Nat, c < 127 → (isL c = true ∨ c < 10) ∨ (isG c = true ↔ ¬ kof (lgr 0 c) = 1) := by decide +kernel
theorem sg_3 : ∀ c : Nat, c < 127 → ∀ s : Nat, s < 8 → (isL c = true ∨ c < 10) ∨ (c = sgC s ↔ kof (lgr 0 c) = 4 + s) := by decide +kernel
theorem sg_all (c : Nat) (h1 : c < 127) (h2 : isL c = false) (h3 : 10 ≤ c) : (kof (lgr 0 c) = 1 ∨ (4 ≤ kof (lgr 0 c) ∧ kof (lgr 0 c) ≤ 11)) ∧ (isG c = true ↔ ¬ kof (lgr 0 c) = 1) ∧ ∀ s, s < 8 → (c = sgC s ↔ kof (lgr 0 c) = 4 + s) := by
  have hn : ¬ (isL c = true ∨ c < 10) := fun q => q.elim (fun z => by rw [h2] at z; cases z) (fun z => by omega)
  exact ⟨(sg_1 c h1).resolve_left hn, (sg_2 c h1).resolve_left hn, fun s hs => (sg_3 c h1 s hs).resolve_left hn⟩
theorem tok_f {t : TK3} (a : tk3 t) : TkF (ctk t).1 (ctk t).2.2 (mSo t) (mVa t) ∧ mSo t ≠ 0 := by
  rcases a with ⟨s0, hw, h0⟩ | ⟨s1, hw, h0⟩ | ⟨s2, c, hc, ho, hB, hL, hD⟩
  · unfold ctk mSo mVa
    rw [if_pos s0, if_pos s0, if_pos s0]
    unfold wKind
    dsimp only
    by_cases h8 : 8 < t.2.2.length
    · rw [if_pos h8, if_pos h8]
      refine ⟨⟨by omega, ⟨by omega, by omega⟩, ⟨by omega, by omega⟩, fun q => by omega, fun s _ => ⟨fun q => by omega, fun q => by omega⟩, fun j hj => ⟨fun q => by omega, fun q => by have := kwK_19 j hj; omega⟩, ⟨fun q => by omega, fun q => by omega⟩, fun q => by omega, ?_⟩, by omega⟩
      exact wv_lt (fun c hc => hw c (List.mem_of_mem_take hc)) (by rw [List.length_take]; omega)
    · rw [if_neg h8, if_neg h8, List.take_of_length_le (by omega)]
      obtain ⟨k1, k2⟩ := kof_word hw (by omega) h0
      have k31 := kof_lt (wkey t.2.2)
      refine ⟨⟨by omega, ⟨by omega, by omega⟩, ⟨by omega, by omega⟩, fun q => by omega, fun s _ => ⟨fun q => by omega, fun q => by omega⟩, fun j hj => ⟨fun q => (k2 j hj).mp q.2, fun q => ⟨rfl, (k2 j hj).mpr q⟩⟩, ⟨fun q => ⟨rfl, fun j hj e => ?_⟩, fun q => ?_⟩, fun q => ⟨t.2.2, hw, by omega, rfl, wkey_5 hw (by omega)⟩, wv_lt hw (by omega)⟩, by omega⟩
      · have e1 := (k2 j (by omega)).mp e
        have := kwK_le j hj
        omega
      · by_cases hk : isNm (kof (wkey t.2.2))
        · exact hk
        · obtain ⟨j, j1, j2⟩ := kwK_on (kof (wkey t.2.2)) (by omega) (by omega)
          exact absurd ((k2 j (by omega)).mpr j2.symm) (q.2 j j1)
  · have hn0 : ¬ t.2.1 = 0 := by omega
    unfold ctk mSo mVa
    rw [if_neg hn0, if_pos s1, if_neg hn0, if_pos s1, if_neg hn0, if_pos s1]
    unfold nKind
    dsimp only
    have hwt : ∀ c ∈ t.2.2.take 4, isD c = true := fun c hc => hw c (List.mem_of_mem_take hc)
    obtain ⟨n1, n2⟩ := nkey_val hwt (by rw [List.length_take]; omega)
    have hnv : nv (t.2.2.take 4) = nval (t.2.2.take 4) := nv_fold _ 0 hwt
    by_cases h8 : 4 < t.2.2.length
    · rw [if_pos h8, if_pos h8]
      exact ⟨⟨by omega, ⟨by omega, by omega⟩, ⟨by omega, by omega⟩, fun q => by omega, fun s _ => ⟨fun q => by omega, fun q => by omega⟩, fun j hj => ⟨fun q => by omega, fun q => by have := kwK_19 j hj; omega⟩, ⟨fun q => by omega, fun q => by omega⟩, fun q => by omega, by omega⟩, by omega⟩
    · rw [if_neg h8, if_neg h8]
      refine ⟨⟨by omega, ⟨by omega, by omega⟩, ⟨by omega, by omega⟩, fun q => ⟨?_, by omega⟩, fun s _ => ⟨fun q => by omega, fun q => by omega⟩, fun j hj => ⟨fun q => by omega, fun q => by have := kwK_19 j hj; omega⟩, ⟨fun q => by omega, fun q => by omega⟩, fun q => by omega, by omega⟩, by omega⟩
      rw [hnv, ← n1, List.take_of_length_le (by omega)]
      exact Int32.toInt32_toInt64 _
  · have hn0 : ¬ t.2.1 = 0 := by omega
    have hn1 : ¬ t.2.1 = 1 := by omega
    have hc0 : t.2.2.headD 0 = c := by rw [hc]; rfl
    obtain ⟨c1, c2⟩ := okS_lt ho
    obtain ⟨g1, g2, g3⟩ := sg_all c c1 hL c2
    unfold ctk mSo mVa
    rw [if_neg hn0, if_neg hn1, if_neg hn0, if_neg hn1, if_neg hn0, if_neg hn1, hc0]
    dsimp only
    have k31 := kof_lt (lgr 0 c)
    by_cases hg : isG c = true
    · rw [if_pos hg]
      have hk1 := g2.mp hg
      exact ⟨⟨by omega, ⟨by omega, by omega⟩, ⟨by omega, by omega⟩, fun q => by omega, fun s hs => ⟨fun q => (g3 s hs).mp q.2, fun q => ⟨rfl, (g3 s hs).mpr q⟩⟩, fun j hj => ⟨fun q => by omega, fun q => by have := kwK_19 j hj; omega⟩, ⟨fun q => by omega, fun q => by omega⟩, fun q => by omega, by omega⟩, by omega⟩
    · rw [if_neg hg]
      have hk1 : kof (lgr 0 c) = 1 := Decidable.not_not.mp (fun q => hg (g2.mpr q))
      exact ⟨⟨by omega, ⟨by omega, by omega⟩, ⟨by omega, by omega⟩, fun q => by omega, fun s hs => ⟨fun q => by omega, fun q => by omega⟩, fun j hj => ⟨fun q => by omega, fun q => by have := kwK_19 j hj; omega⟩, ⟨fun q => by omega, fun q => by omega⟩, fun q => by omega, by omega⟩, by omega⟩
/-- the model's rows tell the class's tokens -/
def TkQ (ts : List CT) (So Va : Nat → Nat) : Prop := ∀ i, i < ts.length → TkF (kA ts i) (vA ts i) (So i) (Va i)
def RwT (h : ax_H) (ts : List CT) (So Va : Nat → Nat) : Prop := ∃ f1 f2 f3, h.2.2 147 = some (eI 1002 f1) ∧ h.2.2 148 = some (eI 1002 f2) ∧ h.2.2 149 = some (eJ 1002 f3) ∧ ∀ i, i < ts.length → f1 i = nI (So i) ∧ f2 i = nI (pA ts i) ∧ (So i ≠ 0 → f3 i = lN (Va i))
theorem RwT.kept {h h' : ax_H} {ts : List CT} {So Va : Nat → Nat} (a : RwT h ts So Va) (hk : ∀ j, 147 ≤ j → j ≤ 149 → h'.2.2 j = h.2.2 j) : RwT h' ts So Va := by
  obtain ⟨f1, f2, f3, e1, e2, e3, q⟩ := a
  exact ⟨f1, f2, f3, (hk _ (by omega) (by omega)).trans e1, (hk _ (by omega) (by omega)).trans e2, (hk _ (by omega) (by omega)).trans e3, q⟩
def soT (tp : List Nat) (i : Nat) : Nat := if i < (cutT 1000 0 tp).length then mSo (tkA (cutT 1000 0 tp) i) else 0
def vaT (tp : List Nat) (i : Nat) : Nat := if i < (cutT 1000 0 tp).length then mVa (tkA (cutT 1000 0 tp) i) else 0
theorem tkA_of {us : List TK3} {i : Nat} {t : TK3} (h : us[i]? = some t) : tkA us i = t := by
  unfold tkA
  rw [List.getD_eq_getElem?_getD, h]
  rfl
theorem cutA_R {tp : List Nat} (ho : ∀ s ∈ tp, okS s) : TkQ (cutA tp) (soT tp) (vaT tp) := by
  intro i hi
  unfold soT vaT kA vA
  rcases cutA_at hi with ⟨e1, e2⟩ | ⟨e1, t, ht, e3, e2⟩
  · rw [if_neg (by omega), if_neg (by omega), e2]
    exact ⟨by omega, ⟨fun _ => rfl, fun _ => rfl⟩, ⟨by omega, by omega⟩, fun q => by omega, fun s _ => ⟨fun q => by omega, fun q => by omega⟩, fun j hj => ⟨fun q => by omega, fun q => by have := kwK_19 j hj; omega⟩, ⟨fun q => by omega, fun q => by omega⟩, fun q => by omega, by omega⟩
  · rw [if_pos e1, if_pos e1, e2, tkA_of e3]
    exact (tok_f ((cutT_all 1000 0 tp ho).2 t ht).2).1
theorem RwM.t {h : ax_H} {tp : List Nat} (a : RwM h tp) : RwT h (cutA tp) (soT tp) (vaT tp) := by
  obtain ⟨f1, f2, f3, e1, e2, e3, q, z1, z2⟩ := a
  refine ⟨f1, f2, f3, e1, e2, e3, fun i hi => ?_⟩
  unfold soT vaT pA
  rcases cutA_at hi with ⟨g1, g2⟩ | ⟨g1, t, ht, g3, g2⟩
  · rw [if_neg (by omega), g2, g1]
    exact ⟨z1, z2, fun q => absurd rfl q⟩
  · obtain ⟨q1, q2, q3⟩ := q i g1
    rw [if_pos g1, if_pos g1, g2]
    refine ⟨q1, ?_, fun _ => q3⟩
    rw [q2, tkA_of g3]
    unfold ctk
    split
    · rfl
    · split <;> rfl
end MTK2
