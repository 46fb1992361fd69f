/-! ===== the tables of a draft are as a net's must be ===== -/
section TB
variable {ts : List CT} {s : Nat × Nat} {D : DD}
def tOK (D : DD) : Prop := (∀ s, s < 5 → D.1.1 1 s ≤ 9 ∧ D.1.1 2 s ≤ 9) ∧ (∀ r, r < nR D.1 → D.1.1 3 r < nP D.1 ∧ D.1.1 4 r < nP D.1 ∧ D.1.1 3 r ≠ D.1.1 4 r ∧ 1 ≤ D.1.1 5 r ∧ D.1.1 5 r ≤ 99) ∧
  (∀ t, t < nT D.1 → D.1.1 6 t < nP D.1 ∧ D.1.1 7 t < nP D.1 ∧ D.1.1 6 t ≠ D.1.1 7 t ∧ D.1.1 8 t < nS D.1 ∧ 1 ≤ D.1.1 9 t ∧ D.1.1 9 t ≤ 999) ∧ (∀ r, D.2.1 r ≤ 999)
theorem upN_at {f : Nat → Nat} {k v j : Nat} : upN f k v j = if j = k then v else f j := rfl
theorem mPlace_t (a : tOK D) : tOK (mPlace ts D s).2 := by
  obtain ⟨a1, a2, a3, a4⟩ := id a
  unfold mPlace
  dsimp only
  split
  · refine ⟨a1, fun r hr => ?_, fun t ht => ?_, a4⟩
    · obtain ⟨q1, q2, q3⟩ := a2 r hr
      exact ⟨Nat.lt_succ_of_lt q1, Nat.lt_succ_of_lt q2, q3⟩
    · obtain ⟨q1, q2, q3⟩ := a3 t ht
      exact ⟨Nat.lt_succ_of_lt q1, Nat.lt_succ_of_lt q2, q3⟩
  · exact a
theorem mStuff_t (a : tOK D) : tOK (mStuff ts D s).2 := by
  obtain ⟨a1, a2, a3, a4⟩ := id a
  unfold mStuff
  dsimp only
  split
  · rename_i hc
    have n2 := sNum_0 (by omega) (by omega) (sSkip_0 hc).1
    have n1 := sNum_0 (by omega) (by omega) (sSkip_0 n2.1).1
    refine ⟨fun q hq => ⟨?_, ?_⟩, a2, fun t ht => ?_, a4⟩
    · show upN (D.1.1 1) _ _ q ≤ 9
      rw [upN_at]
      split
      · exact n1.2.2.2.2
      · exact (a1 q hq).1
    · show upN (D.1.1 2) _ _ q ≤ 9
      rw [upN_at]
      split
      · exact n2.2.2.2.2
      · exact (a1 q hq).2
    · obtain ⟨q1, q2, q3, q4, q5⟩ := a3 t ht
      exact ⟨q1, q2, q3, Nat.lt_succ_of_lt q4, q5⟩
  · exact a
theorem mRoad_t (a : tOK D) : tOK (mRoad ts D s).2 := by
  obtain ⟨a1, a2, a3, a4⟩ := id a
  unfold mRoad
  dsimp only
  split
  · rename_i hc
    have n2 := sNum_0 (by omega) (by omega) (sSkip_0 hc).1
    have n1 := sNum_0 (by omega) (by omega) (sSkip_0 n2.1).1
    obtain ⟨c2, -, p2, v2, w2, x2⟩ := sPlace_0 (sSkip_0 n1.1).1
    obtain ⟨-, -, p1, v1, w1, -⟩ := sPlace_0 c2
    rw [show pOf ts D (sOpen ts (decide (nR D.1 < 10)) 5 s).1 = some p1 from v1] at n1 n2 x2 ⊢
    rw [show pOf ts D (sPlace ts D.1 D.2.2.2 none (sOpen ts (decide (nR D.1 < 10)) 5 s)).1 = some p2 from v2]
    refine ⟨a1, fun r hr => ?_, a3, fun r => ?_⟩
    · have hr' : r < nR D.1 + 1 := hr
      show upN (D.1.1 3) (nR D.1) p1 r < nP D.1 ∧ upN (D.1.1 4) (nR D.1) p2 r < nP D.1 ∧ upN (D.1.1 3) (nR D.1) p1 r ≠ upN (D.1.1 4) (nR D.1) p2 r ∧ 1 ≤ upN (D.1.1 5) (nR D.1) _ r ∧ upN (D.1.1 5) (nR D.1) _ r ≤ 99
      rw [upN_at, upN_at, upN_at]
      by_cases hrr : r = nR D.1
      · rw [if_pos hrr, if_pos hrr, if_pos hrr]
        exact ⟨w1, w2, fun q => x2 (by rw [q]), n1.2.2.2.1, n1.2.2.2.2⟩
      · rw [if_neg hrr, if_neg hrr, if_neg hrr]
        exact a2 r (by omega)
    · show upN D.2.1 (nR D.1) _ r ≤ 999
      rw [upN_at]
      split
      · exact n2.2.2.2.2
      · exact a4 r
  · exact a
theorem mTrade_t (a : tOK D) : tOK (mTrade ts D s).2 := by
  obtain ⟨a1, a2, a3, a4⟩ := id a
  unfold mTrade
  dsimp only
  split
  · rename_i hc
    have n2 := sNum_0 (by omega) (by omega) (sSkip_0 hc).1
    obtain ⟨c3, -, p3, v3, w3⟩ := sStuff_0 (sSkip_0 n2.1).1
    obtain ⟨c2, -, p2, v2, w2, x2⟩ := sPlace_0 (sSkip_0 c3).1
    obtain ⟨-, -, p1, v1, w1, -⟩ := sPlace_0 c2
    rw [v3]
    rw [show pOf ts D (sOpen ts (decide (nT D.1 < 6)) 5 s).1 = some p1 from v1] at n2 x2 ⊢
    rw [show pOf ts D (sPlace ts D.1 D.2.2.2 none (sOpen ts (decide (nT D.1 < 6)) 5 s)).1 = some p2 from v2]
    refine ⟨a1, a2, fun t ht => ?_, a4⟩
    have ht' : t < nT D.1 + 1 := ht
    show upN (D.1.1 6) (nT D.1) p1 t < nP D.1 ∧ upN (D.1.1 7) (nT D.1) p2 t < nP D.1 ∧ upN (D.1.1 6) (nT D.1) p1 t ≠ upN (D.1.1 7) (nT D.1) p2 t ∧ upN (D.1.1 8) (nT D.1) p3 t < nS D.1 ∧ 1 ≤ upN (D.1.1 9) (nT D.1) _ t ∧ upN (D.1.1 9) (nT D.1) _ t ≤ 999
    rw [upN_at, upN_at, upN_at, upN_at]
    by_cases htt : t = nT D.1
    · rw [if_pos htt, if_pos htt, if_pos htt, if_pos htt]
      exact ⟨w1, w2, fun q => x2 (by rw [q]), w3, n2.2.2.2.1, n2.2.2.2.2⟩
    · rw [if_neg htt, if_neg htt, if_neg htt, if_neg htt]
      exact a3 t (by omega)
  · exact a
theorem mLine_t {r : RS} (a : tOK r.2.2.1) : tOK (mLine ts r).2.2.1 := by
  unfold mLine
  split
  · exact mStuff_t a
  split
  · exact mPlace_t a
  split
  · exact mRoad_t a
  split
  · exact mTrade_t a
  split
  · exact a
  split
  · exact a
  split
  · exact a
  · exact a
theorem mRead_t : ∀ n (r : RS), tOK r.2.2.1 → tOK (mRead ts n r).2.2.1
  | 0, _, a => a
  | n + 1, r, a => by
    unfold mRead
    split
    · exact mRead_t n _ (mLine_t a)
    · exact a
end TB
