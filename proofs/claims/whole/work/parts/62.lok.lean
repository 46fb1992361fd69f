section LK
variable {ts : List CT} {s : Nat × Nat} {N : Nt} {sn pn : Nat → Int64}
theorem sStep_le {x : Nat × Nat} (h : x.1 = s.1) : s.1 ≤ (sStep ts x).1 := by
  rw [← h]; exact sStep_a
theorem sName_a : s.1 ≤ (sName ts N sn pn s).1 := by
  unfold sName
  refine sStep_le ?_
  split
  · split
    · rfl
    · exact sFail_a
  · exact sFail_a
theorem sNum_a {a b : Nat} : s.1 ≤ (sNum ts a b s).1 := by
  unfold sNum
  refine sStep_le ?_
  split
  · split
    · exact sFail_a
    · rfl
  · exact sFail_a
theorem sPlace_a {x : Option Nat} : s.1 ≤ (sPlace ts N pn x s).1 := by
  unfold sPlace
  refine sStep_le ?_
  split
  · split
    · exact sFail_a
    · split
      · exact sFail_a
      · rfl
  · exact sFail_a
theorem sStuff_a : s.1 ≤ (sStuff ts N sn s).1 := by
  unfold sStuff
  refine sStep_le ?_
  split
  · split
    · exact sFail_a
    · rfl
  · exact sFail_a
/-- the codes read are no more than the tokens passed; the laws lie within them -/
def rL (r : RS) : Prop := r.2.2.2.1.length ≤ r.1.1 ∧ ∀ v, v < 3 → r.2.2.2.2.2.1 v ≤ r.2.2.2.1.length
theorem mLine_L (ht : tsOK ts) (hE : tsE ts) {r : RS} (a : rOK ts r) (b : rL r) : rL (mLine ts r) := by
  obtain ⟨b1', b2'⟩ := b
  have same : ∀ (s' : Nat × Nat) (l : Nat) (D : DD), r.1.1 ≤ s'.1 → rL (s', l, D, r.2.2.2) := fun s' l D h => ⟨Nat.le_trans b1' h, b2'⟩
  unfold mLine
  split
  · refine same _ _ _ ?_
    unfold mStuff
    exact Nat.le_trans sOpen_a (Nat.le_trans sName_a (Nat.le_trans sSkip_a (Nat.le_trans sNum_a (Nat.le_trans sSkip_a (Nat.le_trans sNum_a sSkip_a)))))
  split
  · refine same _ _ _ ?_
    unfold mPlace
    exact Nat.le_trans sOpen_a (Nat.le_trans sName_a sSkip_a)
  split
  · refine same _ _ _ ?_
    unfold mRoad
    exact Nat.le_trans sOpen_a (Nat.le_trans sPlace_a (Nat.le_trans sPlace_a (Nat.le_trans sSkip_a (Nat.le_trans sNum_a (Nat.le_trans sSkip_a (Nat.le_trans sNum_a sSkip_a))))))
  split
  · refine same _ _ _ ?_
    unfold mTrade
    exact Nat.le_trans sOpen_a (Nat.le_trans sPlace_a (Nat.le_trans sPlace_a (Nat.le_trans sSkip_a (Nat.le_trans sStuff_a (Nat.le_trans sSkip_a (Nat.le_trans sNum_a sSkip_a))))))
  have law : ∀ w, rL ((mLaw ts w r.2.2.2 r.1).1, w, r.2.2.1, (mLaw ts w r.2.2.2 r.1).2) := by
    intro w
    have o : eOK ts (sOpen ts (!decide (r.2.2.2.2.1 w < r.2.2.2.2.2.1 w)) 3 r.1, r.2.2.2.1, r.2.2.2.2.2.2) := ⟨sOpen_ok (by omega) ht a.1, a.2.2.2.2.2.1⟩
    obtain ⟨g1, g2, g3⟩ := joinAll_gr hE (mPart_ok (l := w) ht 5) (mPart_gr ht hE 5) _ o
    have k1 := sSkip_a (ts := ts) (k := 6) (s := (joinAll ts (mPart ts w 5) (sOpen ts (!decide (r.2.2.2.2.1 w < r.2.2.2.2.2.1 w)) 3 r.1, r.2.2.2.1, r.2.2.2.2.2.2)).1)
    have k0 := sOpen_a (ts := ts) (b := !decide (r.2.2.2.2.1 w < r.2.2.2.2.2.1 w)) (k := 3) (s := r.1)
    dsimp only at g1 g2 g3
    refine ⟨?_, fun v hv => ?_⟩
    · show (joinAll ts (mPart ts w 5) (sOpen ts (!decide (r.2.2.2.2.1 w < r.2.2.2.2.2.1 w)) 3 r.1, r.2.2.2.1, r.2.2.2.2.2.2)).2.1.length ≤ (sSkip ts 6 (joinAll ts (mPart ts w 5) (sOpen ts (!decide (r.2.2.2.2.1 w < r.2.2.2.2.2.1 w)) 3 r.1, r.2.2.2.1, r.2.2.2.2.2.2)).1).1
      omega
    · show upN r.2.2.2.2.2.1 w (joinAll ts (mPart ts w 5) (sOpen ts (!decide (r.2.2.2.2.1 w < r.2.2.2.2.2.1 w)) 3 r.1, r.2.2.2.1, r.2.2.2.2.2.2)).2.1.length v ≤ (joinAll ts (mPart ts w 5) (sOpen ts (!decide (r.2.2.2.2.1 w < r.2.2.2.2.2.1 w)) 3 r.1, r.2.2.2.1, r.2.2.2.2.2.2)).2.1.length
      unfold upN
      split
      · exact Nat.le_refl _
      · exact Nat.le_trans (b2' v hv) g3
  split
  · exact law 0
  split
  · exact law 1
  split
  · exact law 2
  · exact ⟨by show r.2.2.2.1.length ≤ (sFail ts 1 r.1).1; rw [sFail_a]; exact b1', b2'⟩
theorem mRead_L (ht : tsOK ts) (hE : tsE ts) : ∀ n (r : RS), rOK ts r → rL r → rL (mRead ts n r)
  | 0, _, _, b => b
  | n + 1, r, a, b => by
    unfold mRead
    split
    · exact mRead_L ht hE n _ (mLine_ok ht a) (mLine_L ht hE a b)
    · exact b
/-- so the laws of a net read are as net wants them -/
theorem rNet_L {tp : List Nat} {l : Nat} {D : DD} (hl : tp.length ≤ 1000) (ho : ∀ s ∈ tp, okS s) : lOK (rNet tp l D).2.2.2 ∧ rOK (cutA tp) (rNet tp l D) := by
  obtain ⟨ht, -⟩ := cutA_ok hl ho
  have hlen : 0 < (cutA tp).length := by unfold cutA; rw [List.length_append, List.length_singleton]; omega
  have o0 : rOK (cutA tp) (r0 l D) := ⟨⟨hlen, by show 0 ≤ 20000; omega⟩, by show (0 : Nat) ≤ 5; omega, by show (0 : Nat) ≤ 7; omega, by show (0 : Nat) ≤ 10; omega, by show (0 : Nat) ≤ 6; omega, by show (0 : Nat) ≤ 1003; omega, fun l _ => ⟨by show (0 : Nat) ≤ 1003; omega, by show (0 : Nat) ≤ 1003; omega⟩⟩
  have l0 : rL (r0 l D) := ⟨Nat.le_refl _, fun v _ => Nat.le_refl _⟩
  have oR := mRead_ok ht 1001 _ o0
  have lR := mRead_L ht cutA_E 1001 _ o0 l0
  have := oR.1.1
  have := ht.1
  have := lR.1
  exact ⟨⟨by show (mRead (cutA tp) 1001 (r0 l D)).2.2.2.1.length ≤ 1000; omega, lR.2⟩, oR⟩
end LK
