/-! ===== the model's net: what is needed of reading ===== -/
section MNP
variable {ts : List CT} {s : Nat × Nat} {D : DD} {r : RS} {t : Nat}
theorem sSkip_up {k : Nat} (hk : ¬ k = 0) (hE : tsE ts) (hs : sOKs ts s) (h0 : (sSkip ts k s).2 = 0) : (sSkip ts k s).1 = s.1 + 1 := by
  rw [sSkip_e hk hE hs, if_pos (sSkip_0 h0)]
theorem pStuff_a : s.1 ≤ (pStuff ts D s).1 := Nat.le_trans sOpen_a (Nat.le_trans sName_a (Nat.le_trans sSkip_a (Nat.le_trans sNum_a (Nat.le_trans sSkip_a sNum_a))))
theorem pPlace_a : s.1 ≤ (pPlace ts D s).1 := Nat.le_trans sOpen_a sName_a
theorem pRoad_a : s.1 ≤ (pRoad ts D s).1 := Nat.le_trans sOpen_a (Nat.le_trans sPlace_a (Nat.le_trans sPlace_a (Nat.le_trans sSkip_a (Nat.le_trans sNum_a (Nat.le_trans sSkip_a sNum_a)))))
theorem pTrade_a : s.1 ≤ (pTrade ts D s).1 := Nat.le_trans sOpen_a (Nat.le_trans sPlace_a (Nat.le_trans sPlace_a (Nat.le_trans sSkip_a (Nat.le_trans sStuff_a (Nat.le_trans sSkip_a sNum_a)))))
theorem mLaw_up {w : Nat} {L : LD} (ht : tsOK ts) (hE : tsE ts) (hs : sOKs ts s) (hl : L.1.length ≤ 1003) (h0 : (mLaw ts w L s).1.2 = 0) : s.1 < (mLaw ts w L s).1.1 := by
  unfold mLaw at h0 ⊢
  dsimp only at h0 ⊢
  have o1 : sOKs ts (sOpen ts (!decide (L.2.1 w < L.2.2.1 w)) 3 s) := sOpen_ok (by omega) ht hs
  have oe : eOK ts (sOpen ts (!decide (L.2.1 w < L.2.2.1 w)) 3 s, L.1, L.2.2.2) := ⟨o1, hl⟩
  have oZ := joinAll_ok (mPart_ok (l := w) ht 5) _ oe
  have gZ := (joinAll_gr hE (mPart_ok (l := w) ht 5) (mPart_gr ht hE 5) _ oe).1
  have a1 : s.1 ≤ (sOpen ts (!decide (L.2.1 w < L.2.2.1 w)) 3 s).1 := sOpen_a
  rw [sSkip_up (by omega) hE oZ.1 h0]
  dsimp only at gZ
  omega
theorem mLine_up (ht : tsOK ts) (hE : tsE ts) (ho : rOK ts r) (h0 : (mLine ts r).1.2 = 0) : r.1.1 < (mLine ts r).1.1 := by
  obtain ⟨hs, -, -, -, -, hl, -⟩ := ho
  unfold mLine at h0 ⊢
  split at h0
  · rename_i h; rw [if_pos h]
    rw [mStuff_p] at h0 ⊢
    have := pStuff_a (ts := ts) (D := r.2.2.1) (s := r.1)
    show r.1.1 < (sSkip ts 6 (pStuff ts r.2.2.1 r.1)).1
    rw [sSkip_up (by omega) hE (pStuff_ok ht hs) h0]; omega
  · rename_i h; rw [if_neg h]
    split at h0
    · rename_i h; rw [if_pos h]
      rw [mPlace_p] at h0 ⊢
      have := pPlace_a (ts := ts) (D := r.2.2.1) (s := r.1)
      show r.1.1 < (sSkip ts 6 (pPlace ts r.2.2.1 r.1)).1
      rw [sSkip_up (by omega) hE (pPlace_ok ht hs) h0]; omega
    · rename_i h; rw [if_neg h]
      split at h0
      · rename_i h; rw [if_pos h]
        rw [mRoad_p] at h0 ⊢
        have := pRoad_a (ts := ts) (D := r.2.2.1) (s := r.1)
        show r.1.1 < (sSkip ts 6 (pRoad ts r.2.2.1 r.1)).1
        rw [sSkip_up (by omega) hE (pRoad_ok ht hs) h0]; omega
      · rename_i h; rw [if_neg h]
        split at h0
        · rename_i h; rw [if_pos h]
          rw [mTrade_p] at h0 ⊢
          have := pTrade_a (ts := ts) (D := r.2.2.1) (s := r.1)
          show r.1.1 < (sSkip ts 6 (pTrade ts r.2.2.1 r.1)).1
          rw [sSkip_up (by omega) hE (pTrade_ok ht hs) h0]; omega
        · rename_i h; rw [if_neg h]
          split at h0
          · rename_i h; rw [if_pos h]; exact mLaw_up ht hE hs hl h0
          · rename_i h; rw [if_neg h]
            split at h0
            · rename_i h; rw [if_pos h]; exact mLaw_up ht hE hs hl h0
            · rename_i h; rw [if_neg h]
              split at h0
              · rename_i h; rw [if_pos h]; exact mLaw_up ht hE hs hl h0
              · exact absurd h0 (sFail_f (by omega))
def slc (L : LD) (l : Nat) : List Nat := (L.1.drop (L.2.1 l)).take (L.2.2.1 l - L.2.1 l)
theorem flN_told {L : LD} {w c l : Nat} (h1 : L.2.1 l < L.2.2.1 l) (h2 : L.2.2.1 l ≤ L.1.length) : slc (flN w c L) l = slc L l ∧ (flN w c L).2.1 l < (flN w c L).2.2.1 l ∧ (flN w c L).2.2.1 l ≤ (flN w c L).1.length := by
  unfold flN
  by_cases hw : L.2.1 w < L.2.2.1 w
  · rw [if_pos hw]; exact ⟨rfl, h1, h2⟩
  · rw [if_neg hw]
    have hlw : ¬ l = w := fun q => hw (q ▸ h1)
    unfold slc
    dsimp only
    rw [upN_ne hlw, upN_ne hlw]
    refine ⟨?_, h1, ?_⟩
    · split
      · rw [List.drop_append_of_le_length (by omega), List.take_append_of_le_length (by rw [List.length_drop]; omega)]
      · rfl
    · split
      · rw [List.length_append]; omega
      · exact h2
theorem flN_new {L : LD} {w c : Nat} (h1 : ¬ L.2.1 w < L.2.2.1 w) (h2 : L.1.length < 1003) : slc (flN w c L) w = [c] ∧ (flN w c L).2.1 w < (flN w c L).2.2.1 w ∧ (flN w c L).2.2.1 w ≤ (flN w c L).1.length := by
  unfold flN
  rw [if_neg h1, if_pos h2]
  unfold slc
  dsimp only
  rw [upN_eq, upN_eq, List.length_append, List.length_singleton, List.drop_left, Nat.add_sub_cancel_left]
  exact ⟨rfl, by omega, Nat.le_refl _⟩
theorem flN_not {L : LD} {w c l : Nat} (hlw : ¬ l = w) (h1 : ¬ L.2.1 l < L.2.2.1 l) : ¬ (flN w c L).2.1 l < (flN w c L).2.2.1 l := by
  unfold flN
  by_cases hw : L.2.1 w < L.2.2.1 w
  · rw [if_pos hw]; exact h1
  · rw [if_neg hw]
    dsimp only
    rw [upN_ne hlw, upN_ne hlw]; exact h1
theorem flN_len {L : LD} {w c : Nat} : (flN w c L).1.length ≤ L.1.length + 1 := by
  unfold flN
  split
  · omega
  · dsimp only
    split
    · rw [List.length_append]; exact Nat.le_refl _
    · omega
theorem flA3_told {L : LD} {l : Nat} (h1 : L.2.1 l < L.2.2.1 l) (h2 : L.2.2.1 l ≤ L.1.length) : slc (flA3 L) l = slc L l := by
  have a := flN_told (w := 0) (c := 0) h1 h2
  have b := flN_told (w := 1) (c := 1) a.2.1 a.2.2
  have c := flN_told (w := 2) (c := 7) b.2.1 b.2.2
  exact c.1.trans (b.1.trans a.1)
theorem flA3_0 {L : LD} (hl : L.1.length ≤ 1000) (h1 : ¬ L.2.1 0 < L.2.2.1 0) : slc (flA3 L) 0 = [0] := by
  have a := flN_new (w := 0) (c := 0) h1 (by omega)
  have b := flN_told (w := 1) (c := 1) a.2.1 a.2.2
  have c := flN_told (w := 2) (c := 7) b.2.1 b.2.2
  exact c.1.trans (b.1.trans a.1)
theorem flA3_1 {L : LD} (hl : L.1.length ≤ 1000) (h1 : ¬ L.2.1 1 < L.2.2.1 1) : slc (flA3 L) 1 = [1] := by
  have a0 := flN_not (w := 0) (c := 0) (show ¬ 1 = 0 by omega) h1
  have l0 := flN_len (L := L) (w := 0) (c := 0)
  have b := flN_new (w := 1) (c := 1) a0 (by omega)
  have c := flN_told (w := 2) (c := 7) b.2.1 b.2.2
  exact c.1.trans b.1
theorem flA3_2 {L : LD} (hl : L.1.length ≤ 1000) (h1 : ¬ L.2.1 2 < L.2.2.1 2) : slc (flA3 L) 2 = [7] := by
  have a0 := flN_not (w := 0) (c := 0) (show ¬ 2 = 0 by omega) h1
  have l0 := flN_len (L := L) (w := 0) (c := 0)
  have b0 := flN_not (w := 1) (c := 1) (show ¬ 2 = 1 by omega) a0
  have l1 := flN_len (L := flN 0 0 L) (w := 1) (c := 1)
  exact (flN_new (w := 2) (c := 7) b0 (by omega)).1
theorem slc_len {L : LD} {l : Nat} (h2 : L.2.2.1 l ≤ L.1.length) : (slc L l).length = L.2.2.1 l - L.2.1 l := by
  unfold slc
  rw [List.length_take, List.length_drop]
  omega
theorem slc_get {L : LD} {l j : Nat} (hj : j < L.2.2.1 l - L.2.1 l) : (slc L l).getD j 0 = L.1.getD (L.2.1 l + j) 0 := by
  unfold slc
  rw [List.getD_eq_getElem?_getD, List.getElem?_take_of_lt hj, List.getElem?_drop, ← List.getD_eq_getElem?_getD]
theorem LwM.fin {F O A F' O' A' : Nat → Int32} {L : LD} {l df : Nat} (a : LwM F O A L t) (hl3 : l < 3) (hlen : L.1.length ≤ 1000) (ht : t ≤ 3) (hF : F' (4 + l) = F (88 + l)) (hO : ∀ k, k < t + L.1.length → O' k = O (1100 + k) ∧ A' k = A (1100 + k)) (hd : ¬ L.2.1 l < L.2.2.1 l → slc (flA3 L) l = [df]) : lwM F' O' A' l df (slc (flA3 L) l) := by
  rcases a l hl3 with ⟨a1, a2⟩ | ⟨b, b1, b2, b3, b4, b5, b6⟩
  · exact Or.inl ⟨hF.trans a1, hd a2⟩
  · rw [flA3_told b2 b3]
    refine Or.inr ⟨b, hF.trans b1, ?_, fun j hj => ?_, ?_⟩
    · rw [slc_len b3]; omega
    · rw [slc_len b3] at hj
      rw [slc_get hj, (hO _ (by omega)).1, (hO _ (by omega)).2]
      exact b5 j hj
    · rw [slc_len b3, (hO _ (by omega)).1]
      exact b6
theorem r0_ok {l : Nat} (h0 : 0 < ts.length) : rOK ts (r0 l D) := ⟨⟨h0, Nat.zero_le _⟩, Nat.zero_le _, Nat.zero_le _, Nat.zero_le _, Nat.zero_le _, Nat.zero_le _, fun _ _ => ⟨Nat.zero_le _, Nat.zero_le _⟩⟩
theorem r0_L {l : Nat} : rL (r0 l D) := ⟨Nat.le_refl _, fun _ _ => Nat.le_refl _⟩
theorem r0_M {F : Nat → Int32} {f : Nat → Int64} {g : Nat → Int32} {Va : Nat → Nat} {l : Nat} (hF : ∀ j, j < 4 → F (84 + j) = nI 0) : DmI ts Va F f g 0 (r0 l D).2.2.1 := by
  refine ⟨⟨⟨hF 0 (by omega), hF 1 (by omega), hF 2 (by omega), hF 3 (by omega), fun s z => absurd z (Nat.not_lt_zero _), fun s z => absurd z (Nat.not_lt_zero _)⟩, fun s z => absurd z (Nat.not_lt_zero _), fun s z => absurd z (Nat.not_lt_zero _)⟩, ⟨rfl, fun a _ _ => ⟨rfl, Or.inl rfl⟩⟩, fun s z => absurd z (Nat.not_lt_zero _)⟩
theorem r0_W {F O A : Nat → Int32} {l : Nat} (hF : ∀ j, j < 3 → F (88 + j) = -1) : LwM F O A (r0 l D).2.2.2 (cnL (r0 l D).2.2.2) := fun l hl => Or.inl ⟨hF l hl, Nat.lt_irrefl _⟩
theorem r0_c {l : Nat} : cnL (r0 l D).2.2.2 + (r0 l D).2.2.2.1.length = 0 := rfl
end MNP
