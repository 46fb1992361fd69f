section RA
variable {G : ax_G} {d : Nat} {h : ax_H} {Q : ax_O → ax_H → Prop} {ts : List CT} {D : DD}
theorem mLine_ok (ht : tsOK ts) {r : RS} (a : rOK ts r) : rOK ts (mLine ts r) := by
  obtain ⟨hs, h1, h2, h3, h4, h5, h6⟩ := id a
  unfold mLine
  split
  · unfold mStuff
    dsimp only
    refine ⟨sSkip_ok ht (sNum_ok ht (sSkip_ok ht (sNum_ok ht (sSkip_ok ht (sName_ok ht (sOpen_ok (by omega) ht hs)))))), ?_⟩
    split
    · rename_i hc
      have c := (sOpen_0 (by omega) (sName_0 (sSkip_0 (sNum_0 (by omega) (by omega) (sSkip_0 (sNum_0 (by omega) (by omega) (sSkip_0 hc).1).1).1).1).1).1).2
      have c' := of_decide_eq_true c
      exact ⟨c', h2, h3, h4, h5, h6⟩
    · exact a.2
  split
  · unfold mPlace
    dsimp only
    refine ⟨sSkip_ok ht (sName_ok ht (sOpen_ok (by omega) ht hs)), ?_⟩
    split
    · rename_i hc
      have c := of_decide_eq_true (sOpen_0 (by omega) (sName_0 (sSkip_0 hc).1).1).2
      exact ⟨h1, c, h3, h4, h5, h6⟩
    · exact a.2
  split
  · unfold mRoad
    dsimp only
    refine ⟨sSkip_ok ht (sNum_ok ht (sSkip_ok ht (sNum_ok ht (sSkip_ok ht (sPlace_ok ht (sPlace_ok ht (sOpen_ok (by omega) ht hs))))))), ?_⟩
    split
    · rename_i hc
      have c := of_decide_eq_true (sOpen_0 (by omega) (sPlace_0 (sPlace_0 (sSkip_0 (sNum_0 (by omega) (by omega) (sSkip_0 (sNum_0 (by omega) (by omega) (sSkip_0 hc).1).1).1).1).1).1).1).2
      exact ⟨h1, h2, c, h4, h5, h6⟩
    · exact a.2
  split
  · unfold mTrade
    dsimp only
    refine ⟨sSkip_ok ht (sNum_ok ht (sSkip_ok ht (sStuff_ok ht (sSkip_ok ht (sPlace_ok ht (sPlace_ok ht (sOpen_ok (by omega) ht hs))))))), ?_⟩
    split
    · rename_i hc
      have c := of_decide_eq_true (sOpen_0 (by omega) (sPlace_0 (sPlace_0 (sSkip_0 (sStuff_0 (sSkip_0 (sNum_0 (by omega) (by omega) (sSkip_0 hc).1).1).1).1).1).1).1).2
      exact ⟨h1, h2, h3, c, h5, h6⟩
    · exact a.2
  have law : ∀ w, sOKs ts (mLaw ts w r.2.2.2 r.1).1 ∧ DrB r.2.2.1.1 (mLaw ts w r.2.2.2 r.1).2.1 (mLaw ts w r.2.2.2 r.1).2.2.1 (mLaw ts w r.2.2.2 r.1).2.2.2.1 := by
    intro w
    unfold mLaw
    dsimp only
    have oj := joinAll_ok (mPart_ok (l := w) ht 5) (sOpen ts (!decide (r.2.2.2.2.1 w < r.2.2.2.2.2.1 w)) 3 r.1, r.2.2.2.1, r.2.2.2.2.2.2) ⟨sOpen_ok (by omega) ht hs, h5⟩
    refine ⟨sSkip_ok ht oj.1, h1, h2, h3, h4, oj.2, fun l hl => ⟨?_, ?_⟩⟩
    · unfold upN
      split
      · exact h5
      · exact (h6 l hl).1
    · unfold upN
      split
      · exact oj.2
      · exact (h6 l hl).2
  split
  · exact law 0
  split
  · exact law 1
  split
  · exact law 2
  · exact ⟨sFail_ok (by omega) ht hs, a.2⟩
/-- a law that wasn't told -/
def flN (w c : Nat) (L : LD) : LD := if L.2.1 w < L.2.2.1 w then L else ((if L.1.length < 1003 then L.1 ++ [c] else L.1), upN L.2.1 w L.1.length, upN L.2.2.1 w (if L.1.length < 1003 then L.1 ++ [c] else L.1).length, hlN L.2.2.2 c)
def flA3 (L : LD) : LD := flN 2 7 (flN 1 1 (flN 0 0 L))
theorem flN_ok {w c : Nat} {L : LD} (hB : DrB D.1 L.1 L.2.1 L.2.2.1) : DrB D.1 (flN w c L).1 (flN w c L).2.1 (flN w c L).2.2.1 := by
  obtain ⟨h1, h2, h3, h4, h5, h6⟩ := id hB
  unfold flN
  split
  · exact hB
  · have hl : (if L.1.length < 1003 then L.1 ++ [c] else L.1).length ≤ 1003 := by
      split
      · rw [List.length_append, List.length_singleton]; omega
      · exact h5
    refine ⟨h1, h2, h3, h4, hl, fun l hl' => ⟨?_, ?_⟩⟩
    · show upN L.2.1 w L.1.length l ≤ 1003
      unfold upN
      split
      · exact h5
      · exact (h6 l hl').1
    · show upN L.2.2.1 w _ l ≤ 1003
      unfold upN
      split
      · exact hl
      · exact (h6 l hl').2
theorem c_fillLawG {w c : Nat} {L : LD} (hw : w < 3) (hc : c < 8) (hB : DrB D.1 L.1 L.2.1 L.2.2.1) (hD : DrD h D L.1 L.2.1 L.2.2.1 L.2.2.2) (hq : ∀ h' , But h h' (fun j => 71 ≤ j ∧ j ≤ 87) → DrD h' D (flN w c L).1 (flN w c L).2.1 (flN w c L).2.2.1 (flN w c L).2.2.2 → Q (.inl none) h') : X G (d + 1) mX1_fillLaw 0 (ax_in 3 [.ref 71, .int (nI w), .int (nI c)]) [] h Q := by
  have e71 := hD.1
  unfold flN at hq
  refine ax_aload_n dX1_fillLaw_0 rfl ?_
  refine ax_iload_n dX1_fillLaw_1 rfl ?_
  refine ax_cV dX1_fillLaw_2 mmX1_hasLaw lkX1_89 miX1_hasLaw msX1_hasLaw (ax_recv_of e71 rfl) rfl rfl (Nat.le_of_ble_eq_true rfl) (Nat.le_of_ble_eq_true rfl) rfl rfl (c_hasLaw (d := d) hw hD hB ⟨_, rfl, ?_⟩)
  by_cases hz : L.2.1 w < L.2.2.1 w
  · rw [b1_t hz]
    simp only [if_pos hz] at hq
    refine ax_if_neT 33 dX1_fillLaw_5 (by decide) (by decide) ?_
    exact ax_return dX1_fillLaw_33 rfl (hq _ But.rf hD)
  · rw [b1_f hz]
    simp only [if_neg hz] at hq
    obtain ⟨f8, e86, q8⟩ := hD.2.2.2.2.2.2.2.2.2.2.2.1
    refine ax_if_neF 33 dX1_fillLaw_5 (by decide) rfl ?_
    refine ax_aload_n dX1_fillLaw_8 rfl ?_
    refine ax_getf dX1_fillLaw_9 flX1_49 e71 rfl ?_
    refine ax_iload_n dX1_fillLaw_12 rfl ?_
    refine ax_aload_n dX1_fillLaw_13 rfl ?_
    refine ax_getf dX1_fillLaw_14 flX1_74 e71 rfl ?_
    refine ax_iast dX1_fillLaw_17 e86 (ax_ix_nI hw (by decide)) ?_
    have kp : ∀ j, j ≠ 86 → (ax_wr h 86 (eI 3 (upd f8 w (nI L.1.length)))).2.2 j = h.2.2 j := fun j z => ax_wr_ne z
    have hD1 : DrD (ax_wr h 86 (eI 3 (upd f8 w (nI L.1.length)))) D L.1 (upN L.2.1 w L.1.length) L.2.2.1 L.2.2.2 := by
      obtain ⟨-, ⟨f1, e1, q1⟩, ⟨f2, e2, q2⟩, a1, a2, a3, a4, a5, a6, a7, ⟨C, e3, q3⟩, a8, a9, a10⟩ := id hD
      exact ⟨(kp _ (by decide)).trans e71, ⟨f1, (kp _ (by decide)).trans e1, q1⟩, ⟨f2, (kp _ (by decide)).trans e2, q2⟩, a1.kept (kp _ (by decide)), a2.kept (kp _ (by decide)), a3.kept (kp _ (by decide)), a4.kept (kp _ (by decide)), a5.kept (kp _ (by decide)), a6.kept (kp _ (by decide)), a7.kept (fun j z1 z2 => kp j (by omega)), ⟨C, (kp _ (by decide)).trans e3, q3⟩, ⟨_, ax_wr_eq, isA_up q8⟩, a9.kept (kp _ (by decide)), a10⟩
    have hb1 : But h (ax_wr h 86 (eI 3 (upd f8 w (nI L.1.length)))) (fun j => 71 ≤ j ∧ j ≤ 87) := But.rf.wr (by omega)
    refine ax_hp (h1 := ax_wr h 86 (eI 3 (upd f8 w (nI L.1.length)))) rfl ?_
    generalize ax_wr h 86 (eI 3 (upd f8 w (nI L.1.length))) = h1 at hD1 hb1 ⊢
    have e71 := hD1.1
    refine ax_aload_n dX1_fillLaw_18 rfl ?_
    refine ax_iload_n dX1_fillLaw_19 rfl ?_
    refine ax_cV dX1_fillLaw_20 mmX1_emit lkX1_93 miX1_emit msX1_emit (ax_recv_of e71 rfl) rfl rfl (Nat.le_of_ble_eq_true rfl) (Nat.le_of_ble_eq_true rfl) rfl rfl (c_emitG (d := d) (by omega) hB.2.2.2.2.1 hD1 (fun h2 hb2 hD2 hk2 => ⟨_, rfl, ?_⟩))
    have hb2' : But h1 h2 (fun j => 71 ≤ j ∧ j ≤ 87) := ⟨hb2.1, hb2.2.1, fun j z => by
      by_cases h88 : j = 88
      · exact hk2 j (by omega) (Or.inr h88)
      · exact hb2.2.2 j (by unfold rdP; omega)⟩
    have e71 := hD2.1
    obtain ⟨f9, e87, q9⟩ := hD2.2.2.2.2.2.2.2.2.2.2.2.2.1
    refine ax_aload_n dX1_fillLaw_23 rfl ?_
    refine ax_getf dX1_fillLaw_24 flX1_52 e71 rfl ?_
    refine ax_iload_n dX1_fillLaw_27 rfl ?_
    refine ax_aload_n dX1_fillLaw_28 rfl ?_
    refine ax_getf dX1_fillLaw_29 flX1_74 e71 rfl ?_
    refine ax_iast dX1_fillLaw_32 e87 (ax_ix_nI hw (by decide)) ?_
    have kp2 : ∀ x j, j ≠ 87 → (ax_wr h2 87 (eI 3 (upd f9 w x))).2.2 j = h2.2.2 j := fun x j z => ax_wr_ne z
    refine ax_return dX1_fillLaw_33 rfl (hq _ ((hb1.tr hb2').wr (by omega)) ?_)
    obtain ⟨g0, ⟨f1, e1, q1⟩, ⟨f2, e2, q2⟩, a1, a2, a3, a4, a5, a6, a7, ⟨C, e3, q3⟩, a8, a9, a10⟩ := id hD2
    exact ⟨(kp2 _ _ (by decide)).trans g0, ⟨f1, (kp2 _ _ (by decide)).trans e1, q1⟩, ⟨f2, (kp2 _ _ (by decide)).trans e2, q2⟩, a1.kept (kp2 _ _ (by decide)), a2.kept (kp2 _ _ (by decide)), a3.kept (kp2 _ _ (by decide)), a4.kept (kp2 _ _ (by decide)), a5.kept (kp2 _ _ (by decide)), a6.kept (kp2 _ _ (by decide)), a7.kept (fun j z1 z2 => kp2 _ j (by omega)), ⟨C, (kp2 _ _ (by decide)).trans e3, q3⟩, a8.kept (kp2 _ _ (by decide)), ⟨_, ax_wr_eq, isA_up q9⟩, a10⟩
theorem c_fillLaws {L : LD} (hB : DrB D.1 L.1 L.2.1 L.2.2.1) (hD : DrD h D L.1 L.2.1 L.2.2.1 L.2.2.2) (hq : ∀ h' , But h h' (fun j => 71 ≤ j ∧ j ≤ 87) → DrD h' D (flA3 L).1 (flA3 L).2.1 (flA3 L).2.2.1 (flA3 L).2.2.2 → Q (.inl none) h') : X G (d + 2) mX1_fillLaws 0 (ax_in 1 [.ref 71]) [] h Q := by
  have e71 := hD.1
  refine ax_aload_n dX1_fillLaws_0 rfl ?_
  refine ax_iconst dX1_fillLaws_1 (v := nI 0) (by decide) ?_
  refine ax_iconst dX1_fillLaws_2 (v := nI 0) (by decide) ?_
  refine ax_cV dX1_fillLaws_3 mmX1_fillLaw lkX1_85 miX1_fillLaw msX1_fillLaw (ax_recv_of e71 rfl) rfl rfl (Nat.le_of_ble_eq_true rfl) (Nat.le_of_ble_eq_true rfl) rfl rfl (c_fillLawG (d := d) (w := 0) (c := 0) (L := L) (by omega) (by omega) hB hD (fun h1 hb1 hD1 => ⟨_, rfl, ?_⟩))
  have e71 := hD1.1
  refine ax_aload_n dX1_fillLaws_6 rfl ?_
  refine ax_iconst dX1_fillLaws_7 (v := nI 1) (by decide) ?_
  refine ax_iconst dX1_fillLaws_8 (v := nI 1) (by decide) ?_
  refine ax_cV dX1_fillLaws_9 mmX1_fillLaw lkX1_85 miX1_fillLaw msX1_fillLaw (ax_recv_of e71 rfl) rfl rfl (Nat.le_of_ble_eq_true rfl) (Nat.le_of_ble_eq_true rfl) rfl rfl (c_fillLawG (d := d) (w := 1) (c := 1) (L := flN 0 0 L) (by omega) (by omega) (flN_ok hB) hD1 (fun h2 hb2 hD2 => ⟨_, rfl, ?_⟩))
  have e71 := hD2.1
  refine ax_aload_n dX1_fillLaws_12 rfl ?_
  refine ax_iconst dX1_fillLaws_13 (v := nI 2) (by decide) ?_
  refine ax_bipush dX1_fillLaws_14 (v := nI 7) (by decide) ?_
  refine ax_cV dX1_fillLaws_16 mmX1_fillLaw lkX1_85 miX1_fillLaw msX1_fillLaw (ax_recv_of e71 rfl) rfl rfl (Nat.le_of_ble_eq_true rfl) (Nat.le_of_ble_eq_true rfl) rfl rfl (c_fillLawG (d := d) (w := 2) (c := 7) (L := flN 1 1 (flN 0 0 L)) (by omega) (by omega) (flN_ok (flN_ok hB)) hD2 (fun h3 hb3 hD3 => ⟨_, rfl, ?_⟩))
  exact ax_return dX1_fillLaws_19 rfl (hq _ ((hb1.tr hb2).tr hb3) hD3)
end RA
