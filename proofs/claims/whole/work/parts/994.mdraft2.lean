/-! ===== the model's draft: roads and trades ===== -/
section MDS
variable {G : ax_G} {d : Nat} {h : ax_H} {Q : ax_O → ax_H → Prop}
variable {th ta si pt fa co nm rd ask nw os sw bc bm : Int32} {gg : Int64}
variable {ts : List CT} {So Va : Nat → Nat} {s : Nat × Nat} {D : DD}
theorem TbM.road {F : Nat → Int32} {x y z w : Nat} {sn pn : Nat → Int64} (a : TbM F D) (h5 : nR D.1 < 10) (hS5 : nS D.1 ≤ 5) : TbM (upd (upd (upd (upd (upd (F) (101 + 4 * nR D.1) (nI x)) (101 + 4 * nR D.1 + 1) (nI y)) (101 + 4 * nR D.1 + 2) (nI z)) (101 + 4 * nR D.1 + 3) (nI w)) 86 (nI (nR D.1 + 1))) (nRoad D.1 x y z, upN D.2.1 (nR D.1) w, sn, pn) := by
  obtain ⟨⟨a0, a1, a2, a3, a4, a5⟩, a6, a7⟩ := a
  refine ⟨⟨?_, ?_, ?_, ?_, fun q hq => ?_, fun r hr => ?_⟩, fun t ht i hi => ?_, fun r hr => ?_⟩
  · dsimp only; repeat rw [upd_ne (by omega)]
    exact a0
  · dsimp only; repeat rw [upd_ne (by omega)]
    exact a1
  · exact upd_eq
  · dsimp only; repeat rw [upd_ne (by omega)]
    exact a3
  · have hq' : q < nS D.1 := hq
    dsimp only
    repeat rw [upd_ne (by omega)]
    exact a4 q hq'
  · have hr' : r < nR D.1 + 1 := hr
    show _ = nI (upN (D.1.1 3) (nR D.1) x r) ∧ _ = nI (upN (D.1.1 4) (nR D.1) y r) ∧ _ = nI (upN (D.1.1 5) (nR D.1) z r)
    unfold upN
    by_cases e : r = nR D.1
    · rw [if_pos e, if_pos e, if_pos e, e]
      dsimp only
      rw [show 84 + (17 + 4 * nR D.1 + 0) = 101 + 4 * nR D.1 by omega, show 84 + (17 + 4 * nR D.1 + 1) = 101 + 4 * nR D.1 + 1 by omega, show 84 + (17 + 4 * nR D.1 + 2) = 101 + 4 * nR D.1 + 2 by omega]
      refine ⟨?_, ?_, ?_⟩
      · rw [upd_ne (by omega), upd_ne (by omega), upd_ne (by omega), upd_ne (by omega), upd_eq]
      · rw [upd_ne (by omega), upd_ne (by omega), upd_ne (by omega), upd_eq]
      · rw [upd_ne (by omega), upd_ne (by omega), upd_eq]
    · rw [if_neg e, if_neg e, if_neg e]
      have := a5 r (by omega)
      dsimp only
      repeat rw [upd_ne (by omega)]
      exact this
  · have ht' : t < nT D.1 := ht
    have := a6 t ht' i hi
    dsimp only
    repeat rw [upd_ne (by omega)]
    refine this.trans ?_
    unfold trN
    show nI _ = nI (if 6 + i = 0 then _ else if 6 + i = 3 then _ else if 6 + i = 4 then _ else if 6 + i = 5 then _ else _)
    rw [if_neg (by omega), if_neg (by omega), if_neg (by omega), if_neg (by omega)]
  · have hr' : r < nR D.1 + 1 := hr
    show _ = nI (upN D.2.1 (nR D.1) w r)
    unfold upN
    by_cases e : r = nR D.1
    · rw [if_pos e, e, show 84 + (17 + 4 * nR D.1 + 3) = 101 + 4 * nR D.1 + 3 by omega, upd_ne (by omega), upd_eq]
    · rw [if_neg e]
      have := a7 r (by omega)
      repeat rw [upd_ne (by omega)]
      exact this
theorem TbM.trade {F : Nat → Int32} {x y z w : Nat} {sn pn : Nat → Int64} (a : TbM F D) (h5 : nT D.1 < 6) (hS5 : nS D.1 ≤ 5) (hR : nR D.1 ≤ 10) : TbM (upd (upd (upd (upd (upd (F) (141 + 4 * nT D.1) (nI x)) (141 + 4 * nT D.1 + 1) (nI y)) (141 + 4 * nT D.1 + 2) (nI z)) (141 + 4 * nT D.1 + 3) (nI w)) 87 (nI (nT D.1 + 1))) (nTrade D.1 x y z w, D.2.1, sn, pn) := by
  obtain ⟨⟨a0, a1, a2, a3, a4, a5⟩, a6, a7⟩ := a
  refine ⟨⟨?_, ?_, ?_, ?_, fun q hq => ?_, fun r hr => ?_⟩, fun t ht i hi => ?_, fun r hr => ?_⟩
  · dsimp only; repeat rw [upd_ne (by omega)]
    exact a0
  · dsimp only; repeat rw [upd_ne (by omega)]
    exact a1
  · dsimp only; repeat rw [upd_ne (by omega)]
    exact a2
  · exact upd_eq
  · have hq' : q < nS D.1 := hq
    dsimp only
    repeat rw [upd_ne (by omega)]
    exact a4 q hq'
  · have hr' : r < nR D.1 := hr
    dsimp only
    repeat rw [upd_ne (by omega)]
    exact a5 r hr'
  · have ht' : t < nT D.1 + 1 := ht
    unfold trN
    show _ = nI (if 6 + i = 0 then _ else if 6 + i = 6 then upN (D.1.1 6) (nT D.1) x t else if 6 + i = 7 then upN (D.1.1 7) (nT D.1) y t else if 6 + i = 8 then upN (D.1.1 8) (nT D.1) z t else if 6 + i = 9 then upN (D.1.1 9) (nT D.1) w t else D.1.1 (6 + i) t)
    rw [if_neg (show ¬ 6 + i = 0 by omega)]
    dsimp only
    unfold upN
    by_cases e : t = nT D.1
    · rw [if_pos e, if_pos e, if_pos e, if_pos e, e]
      have i4 : i = 0 ∨ i = 1 ∨ i = 2 ∨ i = 3 := by omega
      rcases i4 with q | q | q | q
      · rw [q, show 84 + (57 + 4 * nT D.1 + 0) = 141 + 4 * nT D.1 by omega, upd_ne (by omega), upd_ne (by omega), upd_ne (by omega), upd_ne (by omega), upd_eq]; rfl
      · rw [q, show 84 + (57 + 4 * nT D.1 + 1) = 141 + 4 * nT D.1 + 1 by omega, upd_ne (by omega), upd_ne (by omega), upd_ne (by omega), upd_eq]; rfl
      · rw [q, show 84 + (57 + 4 * nT D.1 + 2) = 141 + 4 * nT D.1 + 2 by omega, upd_ne (by omega), upd_ne (by omega), upd_eq]; rfl
      · rw [q, show 84 + (57 + 4 * nT D.1 + 3) = 141 + 4 * nT D.1 + 3 by omega, upd_ne (by omega), upd_eq]; rfl
    · rw [if_neg e, if_neg e, if_neg e, if_neg e]
      have := a6 t (by omega) i hi
      repeat rw [upd_ne (by omega)]
      refine this.trans ?_
      unfold trN
      have i4 : i = 0 ∨ i = 1 ∨ i = 2 ∨ i = 3 := by omega
      rcases i4 with q | q | q | q <;> rw [q] <;> rfl
  · have hr' : r < nR D.1 := hr
    repeat rw [upd_ne (by omega)]
    exact a7 r hr'
def pRoad (ts : List CT) (D : DD) (s : Nat × Nat) : Nat × Nat :=
  let s1 := sOpen ts (decide (nR D.1 < 10)) 5 s
  sNum ts 0 999 (sSkip ts 24 (sNum ts 1 99 (sSkip ts 23 (sPlace ts D.1 D.2.2.2 (pOf ts D s1.1) (sPlace ts D.1 D.2.2.2 none s1)))))
def dRoad (ts : List CT) (D : DD) (s : Nat × Nat) : DD :=
  let s1 := sOpen ts (decide (nR D.1 < 10)) 5 s
  let s2 := sPlace ts D.1 D.2.2.2 none s1
  let s4 := sSkip ts 23 (sPlace ts D.1 D.2.2.2 (pOf ts D s1.1) s2)
  let s6 := sSkip ts 24 (sNum ts 1 99 s4)
  (nRoad D.1 ((pOf ts D s1.1).getD 0) ((pOf ts D s2.1).getD 0) (nA ts s4.1), upN D.2.1 (nR D.1) (nA ts s6.1), D.2.2.1, D.2.2.2)
theorem mRoad_p : mRoad ts D s = (sSkip ts 6 (pRoad ts D s), if (sSkip ts 6 (pRoad ts D s)).2 = 0 then dRoad ts D s else D) := rfl
def pTrade (ts : List CT) (D : DD) (s : Nat × Nat) : Nat × Nat :=
  let s1 := sOpen ts (decide (nT D.1 < 6)) 5 s
  sNum ts 1 999 (sSkip ts 27 (sStuff ts D.1 D.2.2.1 (sSkip ts 19 (sPlace ts D.1 D.2.2.2 (pOf ts D s1.1) (sPlace ts D.1 D.2.2.2 none s1)))))
def dTrade (ts : List CT) (D : DD) (s : Nat × Nat) : DD :=
  let s1 := sOpen ts (decide (nT D.1 < 6)) 5 s
  let s2 := sPlace ts D.1 D.2.2.2 none s1
  let s4 := sSkip ts 19 (sPlace ts D.1 D.2.2.2 (pOf ts D s1.1) s2)
  let s6 := sSkip ts 27 (sStuff ts D.1 D.2.2.1 s4)
  (nTrade D.1 ((pOf ts D s1.1).getD 0) ((pOf ts D s2.1).getD 0) ((nmOf D.2.2.1 (nS D.1) (vA ts s4.1)).getD 0) (nA ts s6.1), D.2.1, D.2.2.1, D.2.2.2)
theorem mTrade_p : mTrade ts D s = (sSkip ts 6 (pTrade ts D s), if (sSkip ts 6 (pTrade ts D s)).2 = 0 then dTrade ts D s else D) := rfl
theorem k_readRoad {n : Nat} {F : Nat → Int32} {f : Nat → Int64} {g : Nat → Int32} (h0 : s.2 = 0) (hk : ¬ kA ts s.1 = 0) (hB : nS D.1 ≤ 5 ∧ nP D.1 ≤ 7 ∧ nR D.1 ≤ 10 ∧ nT D.1 ≤ 6) (hM : DmI ts Va F f g n D) (ht : tsOK ts) (hE : tsE ts) (hs : sOKs ts s) (hT : TkQ ts So Va) (e145 : h.2.2 145 = some (eM th ta si (nI s.1) (nI s.2) co (nI n) rd ask nw os sw bc bm gg)) (hP : PsR h ts So Va) (e151 : h.2.2 151 = some (eI 168 F)) (e154 : h.2.2 154 = some (eJ 12 f)) (e155 : h.2.2 155 = some (eI 12 g)) (hq : ∀ h' F' f' g' n', But h h' dmP → h'.2.2 145 = some (eM th ta si (nI (pRoad ts D s).1) (nI (pRoad ts D s).2) co (nI n') rd ask nw os sw bc bm gg) → h'.2.2 151 = some (eI 168 F') → h'.2.2 154 = some (eJ 12 f') → h'.2.2 155 = some (eI 12 g') → (∀ j, j < 84 ∨ (88 ≤ j ∧ j < 91) → F' j = F j) → ((pRoad ts D s).2 = 0 → DmI ts Va F' f' g' n' (dRoad ts D s)) → Q (.inl none) h') : X G (d + 4) mX12_readRoad 0 (ax_in 3 [.ref 145]) [] h Q := by
  have hF : F 86 = nI (nR D.1) := hM.1.1.2.2.1
  have hn := hM.2.1.1
  have ht1 := ht.1
  by_cases h5 : nR D.1 = 10
  · have ep : pRoad ts D s = sFail ts 5 s := by
      have hf : ¬ (sFail ts 5 s).2 = 0 := sFail_f (by omega)
      unfold pRoad
      dsimp only
      rw [decide_eq_false (by omega), sOpen_n (by omega)]
      simp only [sPlace_f hf, sSkip_f hf, sNum_f hf, sStuff_f hf]
    rw [ep] at hq
    refine ax_aload_n dX12_readRoad_0 rfl ?_
    refine ax_getf dX12_readRoad_1 flX12_75 e145 rfl ?_
    refine ax_bipush dX12_readRoad_4 (v := nI 86) (by decide) ?_
    refine ax_iald dX12_readRoad_6 e151 (ax_ix_nI (j := 86) (by omega) (by decide)) ?_
    rw [hF, h5]
    refine ax_istore_n dX12_readRoad_7 (Nat.le_of_ble_eq_true rfl) ?_
    refine ax_iload_n dX12_readRoad_8 rfl ?_
    refine ax_bipush dX12_readRoad_9 (v := nI 10) (by decide) ?_
    refine ax_icmp_neF 20 dX12_readRoad_11 (by decide) (by decide) ?_
    refine ax_aload_n dX12_readRoad_14 rfl ?_
    refine ax_iconst dX12_readRoad_15 (v := nI 5) (by decide) ?_
    refine ax_cV dX12_readRoad_16 mmX12_wrong lkX12_162 miX12_wrong msX12_wrong (ax_recv_of e145 rfl) rfl rfl (Nat.le_of_ble_eq_true rfl) (Nat.le_of_ble_eq_true rfl) rfl rfl (k_wrong (d := d + 3) (k := 5) (by omega) ht hs e145 hP (fun h1 hb1 e1 => ⟨_, rfl, ?_⟩))
    exact ax_return dX12_readRoad_19 rfl (hq _ F f g n (hb1.wide (fun j z => Or.inl z)) e1 ((hb1.2.2 151 (by decide)).trans e151) ((hb1.2.2 154 (by decide)).trans e154) ((hb1.2.2 155 (by decide)).trans e155) (fun _ _ => rfl) (fun z => absurd z (sFail_f (by omega))))
  · have eo : sOpen ts (decide (nR D.1 < 10)) 5 s = (s.1 + 1, 0) := by rw [decide_eq_true (by omega)]; exact sStep_y hE hs h0 hk
    unfold pRoad dRoad at hq
    dsimp only at hq
    rw [eo] at hq
    have o1 : sOKs ts (s.1 + 1, 0) := by
      rw [← sStep_y hE hs h0 hk]; exact sStep_ok hs
    have e1 : nI s.1 + nI 1 = nI (s.1 + 1, 0).1 := nI_add s.1 1
    have e1' : nI s.2 = nI (s.1 + 1, 0).2 := by rw [h0]
    generalize (s.1 + 1, 0) = s1 at hq o1 e1 e1'
    have o2 : sOKs ts (sPlace ts D.1 D.2.2.2 none s1) := sPlace_ok ht o1
    generalize hs2 : sPlace ts D.1 D.2.2.2 none s1 = s2 at hq o2
    have o3 : sOKs ts (sPlace ts D.1 D.2.2.2 (pOf ts D s1.1) s2) := sPlace_ok ht o2
    generalize hs3 : sPlace ts D.1 D.2.2.2 (pOf ts D s1.1) s2 = s3 at hq o3
    have o5 : sOKs ts (sNum ts 1 99 (sSkip ts 23 s3)) := sNum_ok ht (sSkip_ok ht o3)
    generalize hs4 : sSkip ts 23 s3 = s4 at hq o5
    generalize hs5 : sNum ts 1 99 s4 = s5 at hq o5
    generalize hs6 : sSkip ts 24 s5 = s6 at hq
    generalize hs7 : sNum ts 0 999 s6 = s7 at hq
    have fin : ∀ (h1 : ax_H), But h h1 (fun j => j = 145) → h1.2.2 145 = some (eM th ta si (nI s1.1) (nI s1.2) co (nI n) rd ask nw os sw bc bm gg) → X G (d + 4) mX12_readRoad 37 [some (.ref 145), some (.int (nI (nR D.1))), some (.int (nI (101 + 4 * nR D.1)))] [] h1 Q := by
     intro h1 hb1 e145
     have e151 := (hb1.2.2 151 (by decide)).trans e151
     have e154 := (hb1.2.2 154 (by decide)).trans e154
     have e155 := (hb1.2.2 155 (by decide)).trans e155
     have hb1 := hb1.wide (P' := dmP) (fun j z => Or.inl z)
     refine ax_aload_n dX12_readRoad_37 rfl ?_
     refine ax_getf dX12_readRoad_38 flX12_75 e145 rfl ?_
     refine ax_iload_n dX12_readRoad_41 rfl ?_
     refine ax_aload_n dX12_readRoad_42 rfl ?_
     refine ax_iconst dX12_readRoad_43 (v := nI 0) (by decide) ?_
     refine ax_iconst dX12_readRoad_44 (v := -1) (by decide) ?_
     refine ax_cV dX12_readRoad_45 mmX12_takeTold lkX12_227 miX12_takeTold msX12_takeTold (ax_recv_of e145 rfl) rfl rfl (Nat.le_of_ble_eq_true rfl) (Nat.le_of_ble_eq_true rfl) rfl rfl (k_toldP (d := d + 2) (x := none) (fun _ => rfl) (by omega) hM.2.1 ⟨hB.1, hB.2.1⟩ ht hE o1 hT e145 (hP.k4 hb1) e154 e155 (fun j z => by cases z) (fun h2 v2 hc2 e145 hv2 => ⟨_, rfl, ?_⟩))
     rw [hs2] at hv2 e145
     have e151 := (hc2.2.2 151 (by decide)).trans e151
     have e154 := (hc2.2.2 154 (by decide)).trans e154
     have e155 := (hc2.2.2 155 (by decide)).trans e155
     have hb2 := hb1.tr (hc2.wide (P' := dmP) (fun j z => Or.inl z))
     refine ax_iast dX12_readRoad_48 e151 (ax_ix_nI (j := 101 + 4 * nR D.1) (by omega) (by decide)) ?_
     have hb3 : But h (ax_wr h2 151 (eI 168 (upd F (101 + 4 * nR D.1) v2))) dmP := hb2.wr (Or.inr (Or.inl rfl))
     have e145 : (ax_wr h2 151 (eI 168 (upd F (101 + 4 * nR D.1) v2))).2.2 145 = _ := (ax_wr_ne (by decide)).trans e145
     have e151 : (ax_wr h2 151 (eI 168 (upd F (101 + 4 * nR D.1) v2))).2.2 151 = _ := ax_wr_eq
     have e154 : (ax_wr h2 151 (eI 168 (upd F (101 + 4 * nR D.1) v2))).2.2 154 = _ := (ax_wr_ne (by decide)).trans e154
     have e155 : (ax_wr h2 151 (eI 168 (upd F (101 + 4 * nR D.1) v2))).2.2 155 = _ := (ax_wr_ne (by decide)).trans e155
     generalize ax_wr h2 151 (eI 168 (upd F (101 + 4 * nR D.1) v2)) = h3 at hb3 e145 e151 e154 e155 ⊢
     generalize hF1 : upd F (101 + 4 * nR D.1) v2 = F1 at e151 ⊢
     refine ax_aload_n dX12_readRoad_49 rfl ?_
     refine ax_getf dX12_readRoad_50 flX12_75 e145 rfl ?_
     refine ax_iload_n dX12_readRoad_53 rfl ?_
     refine ax_iconst dX12_readRoad_54 (v := nI 1) (by decide) ?_
     refine ax_iadd dX12_readRoad_55 ?_
     rw [nI_add (101 + 4 * nR D.1) 1]
     refine ax_aload_n dX12_readRoad_56 rfl ?_
     refine ax_iconst dX12_readRoad_57 (v := nI 0) (by decide) ?_
     refine ax_aload_n dX12_readRoad_58 rfl ?_
     refine ax_getf dX12_readRoad_59 flX12_75 e145 rfl ?_
     refine ax_iload_n dX12_readRoad_62 rfl ?_
     refine ax_iald dX12_readRoad_63 e151 (ax_ix_nI (j := 101 + 4 * nR D.1) (by omega) (by decide)) ?_
     rw [show F1 (101 + 4 * nR D.1) = v2 from by rw [← hF1]; exact upd_eq]
     refine ax_cV dX12_readRoad_64 mmX12_takeTold lkX12_227 miX12_takeTold msX12_takeTold (ax_recv_of e145 rfl) rfl rfl (Nat.le_of_ble_eq_true rfl) (Nat.le_of_ble_eq_true rfl) rfl rfl (k_toldP (d := d + 2) (x := pOf ts D s1.1) (fun z => (hv2 z).2) (by omega) hM.2.1 ⟨hB.1, hB.2.1⟩ ht hE o2 hT e145 (hP.k4 hb3) e154 e155 (fun j z => by have := nmOf_lt z; omega) (fun h4 v4 hc4 e145 hv4 => ⟨_, rfl, ?_⟩))
     rw [hs3] at hv4 e145
     have e151 := (hc4.2.2 151 (by decide)).trans e151
     have e154 := (hc4.2.2 154 (by decide)).trans e154
     have e155 := (hc4.2.2 155 (by decide)).trans e155
     have hb4 := hb3.tr (hc4.wide (P' := dmP) (fun j z => Or.inl z))
     refine ax_iast dX12_readRoad_67 e151 (ax_ix_nI (j := 101 + 4 * nR D.1 + 1) (by omega) (by decide)) ?_
     have hb5 : But h (ax_wr h4 151 (eI 168 (upd F1 (101 + 4 * nR D.1 + 1) v4))) dmP := hb4.wr (Or.inr (Or.inl rfl))
     have e145 : (ax_wr h4 151 (eI 168 (upd F1 (101 + 4 * nR D.1 + 1) v4))).2.2 145 = _ := (ax_wr_ne (by decide)).trans e145
     have e151 : (ax_wr h4 151 (eI 168 (upd F1 (101 + 4 * nR D.1 + 1) v4))).2.2 151 = _ := ax_wr_eq
     have e154 : (ax_wr h4 151 (eI 168 (upd F1 (101 + 4 * nR D.1 + 1) v4))).2.2 154 = _ := (ax_wr_ne (by decide)).trans e154
     have e155 : (ax_wr h4 151 (eI 168 (upd F1 (101 + 4 * nR D.1 + 1) v4))).2.2 155 = _ := (ax_wr_ne (by decide)).trans e155
     generalize ax_wr h4 151 (eI 168 (upd F1 (101 + 4 * nR D.1 + 1) v4)) = h5 at hb5 e145 e151 e154 e155 ⊢
     generalize hF2 : upd F1 (101 + 4 * nR D.1 + 1) v4 = F2 at e151 ⊢
     refine ax_aload_n dX12_readRoad_68 rfl ?_
     refine ax_getf dX12_readRoad_69 flX12_75 e145 rfl ?_
     refine ax_iload_n dX12_readRoad_72 rfl ?_
     refine ax_iconst dX12_readRoad_73 (v := nI 2) (by decide) ?_
     refine ax_iadd dX12_readRoad_74 ?_
     rw [nI_add (101 + 4 * nR D.1) 2]
     refine ax_aload_n dX12_readRoad_75 rfl ?_
     refine ax_iconst dX12_readRoad_76 (v := nI 5) (by decide) ?_
     refine ax_iconst dX12_readRoad_77 (v := nI 1) (by decide) ?_
     refine ax_bipush dX12_readRoad_78 (v := nI 99) (by decide) ?_
     refine ax_cV dX12_readRoad_80 mmX12_takeAfter lkX12_223 miX12_takeAfter msX12_takeAfter (ax_recv_of e145 rfl) rfl rfl (Nat.le_of_ble_eq_true rfl) (Nat.le_of_ble_eq_true rfl) rfl rfl (k_takeAfter (w := 5) (a := 1) (b := 99) (d := d) (by omega) (by omega) (by omega) ht hE o3 hT e145 (hP.k4 hb5) (fun h6 hc6 e145 => ⟨_, rfl, ?_⟩))
     rw [show kwK 5 = 23 from rfl, hs4, hs5] at e145 ⊢
     have e151 := (hc6.2.2 151 (by decide)).trans e151
     have e154 := (hc6.2.2 154 (by decide)).trans e154
     have e155 := (hc6.2.2 155 (by decide)).trans e155
     have hb6 := hb5.tr (hc6.wide (P' := dmP) (fun j z => Or.inl z))
     generalize hv6 : (if s5.2 = 0 then nA ts s4.1 else 0) = v6
     refine ax_iast dX12_readRoad_83 e151 (ax_ix_nI (j := 101 + 4 * nR D.1 + 2) (by omega) (by decide)) ?_
     have hb7 : But h (ax_wr h6 151 (eI 168 (upd F2 (101 + 4 * nR D.1 + 2) (nI v6)))) dmP := hb6.wr (Or.inr (Or.inl rfl))
     have e145 : (ax_wr h6 151 (eI 168 (upd F2 (101 + 4 * nR D.1 + 2) (nI v6)))).2.2 145 = _ := (ax_wr_ne (by decide)).trans e145
     have e151 : (ax_wr h6 151 (eI 168 (upd F2 (101 + 4 * nR D.1 + 2) (nI v6)))).2.2 151 = _ := ax_wr_eq
     have e154 : (ax_wr h6 151 (eI 168 (upd F2 (101 + 4 * nR D.1 + 2) (nI v6)))).2.2 154 = _ := (ax_wr_ne (by decide)).trans e154
     have e155 : (ax_wr h6 151 (eI 168 (upd F2 (101 + 4 * nR D.1 + 2) (nI v6)))).2.2 155 = _ := (ax_wr_ne (by decide)).trans e155
     generalize ax_wr h6 151 (eI 168 (upd F2 (101 + 4 * nR D.1 + 2) (nI v6))) = h7 at hb7 e145 e151 e154 e155 ⊢
     generalize hF3 : upd F2 (101 + 4 * nR D.1 + 2) (nI v6) = F3 at e151 ⊢
     refine ax_aload_n dX12_readRoad_84 rfl ?_
     refine ax_getf dX12_readRoad_85 flX12_75 e145 rfl ?_
     refine ax_iload_n dX12_readRoad_88 rfl ?_
     refine ax_iconst dX12_readRoad_89 (v := nI 3) (by decide) ?_
     refine ax_iadd dX12_readRoad_90 ?_
     rw [nI_add (101 + 4 * nR D.1) 3]
     refine ax_aload_n dX12_readRoad_91 rfl ?_
     refine ax_bipush dX12_readRoad_92 (v := nI 6) (by decide) ?_
     refine ax_iconst dX12_readRoad_94 (v := nI 0) (by decide) ?_
     refine ax_sipush dX12_readRoad_95 (v := nI 999) (by decide) ?_
     refine ax_cV dX12_readRoad_98 mmX12_takeAfter lkX12_223 miX12_takeAfter msX12_takeAfter (ax_recv_of e145 rfl) rfl rfl (Nat.le_of_ble_eq_true rfl) (Nat.le_of_ble_eq_true rfl) rfl rfl (k_takeAfter (w := 6) (a := 0) (b := 999) (d := d) (by omega) (by omega) (by omega) ht hE o5 hT e145 (hP.k4 hb7) (fun h8 hc8 e145 => ⟨_, rfl, ?_⟩))
     rw [show kwK 6 = 24 from rfl, hs6, hs7] at e145 ⊢
     have e151 := (hc8.2.2 151 (by decide)).trans e151
     have e154 := (hc8.2.2 154 (by decide)).trans e154
     have e155 := (hc8.2.2 155 (by decide)).trans e155
     have hb8 := hb7.tr (hc8.wide (P' := dmP) (fun j z => Or.inl z))
     generalize hv8 : (if s7.2 = 0 then nA ts s6.1 else 0) = v8
     refine ax_iast dX12_readRoad_101 e151 (ax_ix_nI (j := 101 + 4 * nR D.1 + 3) (by omega) (by decide)) ?_
     have hb9 : But h (ax_wr h8 151 (eI 168 (upd F3 (101 + 4 * nR D.1 + 3) (nI v8)))) dmP := hb8.wr (Or.inr (Or.inl rfl))
     have e145 : (ax_wr h8 151 (eI 168 (upd F3 (101 + 4 * nR D.1 + 3) (nI v8)))).2.2 145 = _ := (ax_wr_ne (by decide)).trans e145
     have e151 : (ax_wr h8 151 (eI 168 (upd F3 (101 + 4 * nR D.1 + 3) (nI v8)))).2.2 151 = _ := ax_wr_eq
     have e154 : (ax_wr h8 151 (eI 168 (upd F3 (101 + 4 * nR D.1 + 3) (nI v8)))).2.2 154 = _ := (ax_wr_ne (by decide)).trans e154
     have e155 : (ax_wr h8 151 (eI 168 (upd F3 (101 + 4 * nR D.1 + 3) (nI v8)))).2.2 155 = _ := (ax_wr_ne (by decide)).trans e155
     generalize ax_wr h8 151 (eI 168 (upd F3 (101 + 4 * nR D.1 + 3) (nI v8))) = h9 at hb9 e145 e151 e154 e155 ⊢
     generalize hF4 : upd F3 (101 + 4 * nR D.1 + 3) (nI v8) = F4 at e151 ⊢
     have hF4' : F4 86 = nI (nR D.1) := by rw [← hF4, ← hF3, ← hF2, ← hF1, upd_ne (by omega), upd_ne (by omega), upd_ne (by omega), upd_ne (by omega), hF]
     refine ax_aload_n dX12_readRoad_102 rfl ?_
     refine ax_getf dX12_readRoad_103 flX12_75 e145 rfl ?_
     refine ax_bipush dX12_readRoad_106 (v := nI 86) (by decide) ?_
     refine ax_dup2 dX12_readRoad_108 rfl rfl ?_
     refine ax_iald dX12_readRoad_109 e151 (ax_ix_nI (j := 86) (by omega) (by decide)) ?_
     rw [hF4']
     refine ax_iconst dX12_readRoad_110 (v := nI 1) (by decide) ?_
     refine ax_iadd dX12_readRoad_111 ?_
     rw [nI_add (nR D.1) 1]
     refine ax_iast dX12_readRoad_112 e151 (ax_ix_nI (j := 86) (by omega) (by decide)) ?_
     refine ax_return dX12_readRoad_113 rfl (hq _ _ f g n (hb9.wr (Or.inr (Or.inl rfl))) ((ax_wr_ne (by decide)).trans e145) ax_wr_eq ((ax_wr_ne (by decide)).trans e154) ((ax_wr_ne (by decide)).trans e155) (fun j z => by rw [upd_ne (by omega), ← hF4, ← hF3, ← hF2, ← hF1, upd_ne (by omega), upd_ne (by omega), upd_ne (by omega), upd_ne (by omega)]) (fun z => ?_))
     have z7 := sNum_0 (by omega) (by omega) (show (sNum ts 0 999 s6).2 = 0 from by rw [hs7]; exact z)
     have z6 := sSkip_0 (show (sSkip ts 24 s5).2 = 0 from by rw [hs6]; exact z7.1)
     have z5 := sNum_0 (by omega) (by omega) (show (sNum ts 1 99 s4).2 = 0 from by rw [hs5]; exact z6.1)
     have z4 := sSkip_0 (show (sSkip ts 23 s3).2 = 0 from by rw [hs4]; exact z5.1)
     have z3 := sPlace_0 (show (sPlace ts D.1 D.2.2.2 (pOf ts D s1.1) s2).2 = 0 from by rw [hs3]; exact z4.1)
     rw [if_pos z] at hv8
     rw [if_pos z6.1] at hv6
     rw [← hF4, ← hF3, ← hF2, ← hF1, (hv2 z3.1).1, (hv4 z4.1).1, ← hv8, ← hv6]
     exact ⟨hM.1.road (by omega) hB.1, hM.2⟩
    refine ax_aload_n dX12_readRoad_0 rfl ?_
    refine ax_getf dX12_readRoad_1 flX12_75 e145 rfl ?_
    refine ax_bipush dX12_readRoad_4 (v := nI 86) (by decide) ?_
    refine ax_iald dX12_readRoad_6 e151 (ax_ix_nI (j := 86) (by omega) (by decide)) ?_
    rw [hF]
    refine ax_istore_n dX12_readRoad_7 (Nat.le_of_ble_eq_true rfl) ?_
    refine ax_iload_n dX12_readRoad_8 rfl ?_
    refine ax_bipush dX12_readRoad_9 (v := nI 10) (by decide) ?_
    refine ax_icmp_neT 20 dX12_readRoad_11 (by decide) (fun z => h5 ((nI_eq (by omega) (by omega)).mp z)) ?_
    refine ax_aload_n dX12_readRoad_20 rfl ?_
    refine ax_dup dX12_readRoad_21 rfl ?_
    refine ax_getf dX12_readRoad_22 flX12_153 e145 rfl ?_
    refine ax_iconst dX12_readRoad_25 (v := nI 1) (by decide) ?_
    refine ax_iadd dX12_readRoad_26 ?_
    refine ax_putf dX12_readRoad_27 flX12_153 e145 (Nat.le_of_ble_eq_true rfl) (fun _ => ⟨rfl, rfl⟩) ?_
    rw [e1, e1']
    refine ax_bipush dX12_readRoad_30 (v := nI 101) (by decide) ?_
    refine ax_iconst dX12_readRoad_32 (v := nI 4) (by decide) ?_
    refine ax_iload_n dX12_readRoad_33 rfl ?_
    refine ax_imul dX12_readRoad_34 ?_
    refine ax_iadd dX12_readRoad_35 ?_
    refine ax_istore_n dX12_readRoad_36 (Nat.le_of_ble_eq_true rfl) ?_
    rw [pk_mul 4 (nR D.1), nI_add 101 (4 * nR D.1)]
    exact fin _ (But.rf.wr rfl) ax_wr_eq
theorem k_readTrade {n : Nat} {F : Nat → Int32} {f : Nat → Int64} {g : Nat → Int32} (h0 : s.2 = 0) (hk : ¬ kA ts s.1 = 0) (hB : nS D.1 ≤ 5 ∧ nP D.1 ≤ 7 ∧ nR D.1 ≤ 10 ∧ nT D.1 ≤ 6) (hM : DmI ts Va F f g n D) (ht : tsOK ts) (hE : tsE ts) (hs : sOKs ts s) (hT : TkQ ts So Va) (e145 : h.2.2 145 = some (eM th ta si (nI s.1) (nI s.2) co (nI n) rd ask nw os sw bc bm gg)) (hP : PsR h ts So Va) (e151 : h.2.2 151 = some (eI 168 F)) (e154 : h.2.2 154 = some (eJ 12 f)) (e155 : h.2.2 155 = some (eI 12 g)) (hq : ∀ h' F' f' g' n', But h h' dmP → h'.2.2 145 = some (eM th ta si (nI (pTrade ts D s).1) (nI (pTrade ts D s).2) co (nI n') rd ask nw os sw bc bm gg) → h'.2.2 151 = some (eI 168 F') → h'.2.2 154 = some (eJ 12 f') → h'.2.2 155 = some (eI 12 g') → (∀ j, j < 84 ∨ (88 ≤ j ∧ j < 91) → F' j = F j) → ((pTrade ts D s).2 = 0 → DmI ts Va F' f' g' n' (dTrade ts D s)) → Q (.inl none) h') : X G (d + 4) mX12_readTrade 0 (ax_in 3 [.ref 145]) [] h Q := by
  have hF : F 87 = nI (nT D.1) := hM.1.1.2.2.2.1
  have hn := hM.2.1.1
  have ht1 := ht.1
  by_cases h5 : nT D.1 = 6
  · have ep : pTrade ts D s = sFail ts 5 s := by
      have hf : ¬ (sFail ts 5 s).2 = 0 := sFail_f (by omega)
      unfold pTrade
      dsimp only
      rw [decide_eq_false (by omega), sOpen_n (by omega)]
      simp only [sPlace_f hf, sSkip_f hf, sNum_f hf, sStuff_f hf]
    rw [ep] at hq
    refine ax_aload_n dX12_readTrade_0 rfl ?_
    refine ax_getf dX12_readTrade_1 flX12_75 e145 rfl ?_
    refine ax_bipush dX12_readTrade_4 (v := nI 87) (by decide) ?_
    refine ax_iald dX12_readTrade_6 e151 (ax_ix_nI (j := 87) (by omega) (by decide)) ?_
    rw [hF, h5]
    refine ax_istore_n dX12_readTrade_7 (Nat.le_of_ble_eq_true rfl) ?_
    refine ax_iload_n dX12_readTrade_8 rfl ?_
    refine ax_bipush dX12_readTrade_9 (v := nI 6) (by decide) ?_
    refine ax_icmp_neF 20 dX12_readTrade_11 (by decide) (by decide) ?_
    refine ax_aload_n dX12_readTrade_14 rfl ?_
    refine ax_iconst dX12_readTrade_15 (v := nI 5) (by decide) ?_
    refine ax_cV dX12_readTrade_16 mmX12_wrong lkX12_162 miX12_wrong msX12_wrong (ax_recv_of e145 rfl) rfl rfl (Nat.le_of_ble_eq_true rfl) (Nat.le_of_ble_eq_true rfl) rfl rfl (k_wrong (d := d + 3) (k := 5) (by omega) ht hs e145 hP (fun h1 hb1 e1 => ⟨_, rfl, ?_⟩))
    exact ax_return dX12_readTrade_19 rfl (hq _ F f g n (hb1.wide (fun j z => Or.inl z)) e1 ((hb1.2.2 151 (by decide)).trans e151) ((hb1.2.2 154 (by decide)).trans e154) ((hb1.2.2 155 (by decide)).trans e155) (fun _ _ => rfl) (fun z => absurd z (sFail_f (by omega))))
  · have eo : sOpen ts (decide (nT D.1 < 6)) 5 s = (s.1 + 1, 0) := by rw [decide_eq_true (by omega)]; exact sStep_y hE hs h0 hk
    unfold pTrade dTrade at hq
    dsimp only at hq
    rw [eo] at hq
    have o1 : sOKs ts (s.1 + 1, 0) := by
      rw [← sStep_y hE hs h0 hk]; exact sStep_ok hs
    have e1 : nI s.1 + nI 1 = nI (s.1 + 1, 0).1 := nI_add s.1 1
    have e1' : nI s.2 = nI (s.1 + 1, 0).2 := by rw [h0]
    generalize (s.1 + 1, 0) = s1 at hq o1 e1 e1'
    have o2 : sOKs ts (sPlace ts D.1 D.2.2.2 none s1) := sPlace_ok ht o1
    generalize hs2 : sPlace ts D.1 D.2.2.2 none s1 = s2 at hq o2
    have o3 : sOKs ts (sPlace ts D.1 D.2.2.2 (pOf ts D s1.1) s2) := sPlace_ok ht o2
    generalize hs3 : sPlace ts D.1 D.2.2.2 (pOf ts D s1.1) s2 = s3 at hq o3
    have o4 : sOKs ts (sSkip ts 19 s3) := sSkip_ok ht o3
    generalize hs4 : sSkip ts 19 s3 = s4 at hq o4
    have o5 : sOKs ts (sStuff ts D.1 D.2.2.1 s4) := sStuff_ok ht o4
    generalize hs5 : sStuff ts D.1 D.2.2.1 s4 = s5 at hq o5
    generalize hs6 : sSkip ts 27 s5 = s6 at hq
    generalize hs7 : sNum ts 1 999 s6 = s7 at hq
    have fin : ∀ (h1 : ax_H), But h h1 (fun j => j = 145) → h1.2.2 145 = some (eM th ta si (nI s1.1) (nI s1.2) co (nI n) rd ask nw os sw bc bm gg) → X G (d + 4) mX12_readTrade 38 [some (.ref 145), some (.int (nI (nT D.1))), some (.int (nI (141 + 4 * nT D.1)))] [] h1 Q := by
     intro h1 hb1 e145
     have e151 := (hb1.2.2 151 (by decide)).trans e151
     have e154 := (hb1.2.2 154 (by decide)).trans e154
     have e155 := (hb1.2.2 155 (by decide)).trans e155
     have hb1 := hb1.wide (P' := dmP) (fun j z => Or.inl z)
     refine ax_aload_n dX12_readTrade_38 rfl ?_
     refine ax_getf dX12_readTrade_39 flX12_75 e145 rfl ?_
     refine ax_iload_n dX12_readTrade_42 rfl ?_
     refine ax_aload_n dX12_readTrade_43 rfl ?_
     refine ax_iconst dX12_readTrade_44 (v := nI 0) (by decide) ?_
     refine ax_iconst dX12_readTrade_45 (v := -1) (by decide) ?_
     refine ax_cV dX12_readTrade_46 mmX12_takeTold lkX12_227 miX12_takeTold msX12_takeTold (ax_recv_of e145 rfl) rfl rfl (Nat.le_of_ble_eq_true rfl) (Nat.le_of_ble_eq_true rfl) rfl rfl (k_toldP (d := d + 2) (x := none) (fun _ => rfl) (by omega) hM.2.1 ⟨hB.1, hB.2.1⟩ ht hE o1 hT e145 (hP.k4 hb1) e154 e155 (fun j z => by cases z) (fun h2 v2 hc2 e145 hv2 => ⟨_, rfl, ?_⟩))
     rw [hs2] at hv2 e145
     have e151 := (hc2.2.2 151 (by decide)).trans e151
     have e154 := (hc2.2.2 154 (by decide)).trans e154
     have e155 := (hc2.2.2 155 (by decide)).trans e155
     have hb2 := hb1.tr (hc2.wide (P' := dmP) (fun j z => Or.inl z))
     refine ax_iast dX12_readTrade_49 e151 (ax_ix_nI (j := 141 + 4 * nT D.1) (by omega) (by decide)) ?_
     have hb3 : But h (ax_wr h2 151 (eI 168 (upd F (141 + 4 * nT D.1) v2))) dmP := hb2.wr (Or.inr (Or.inl rfl))
     have e145 : (ax_wr h2 151 (eI 168 (upd F (141 + 4 * nT D.1) v2))).2.2 145 = _ := (ax_wr_ne (by decide)).trans e145
     have e151 : (ax_wr h2 151 (eI 168 (upd F (141 + 4 * nT D.1) v2))).2.2 151 = _ := ax_wr_eq
     have e154 : (ax_wr h2 151 (eI 168 (upd F (141 + 4 * nT D.1) v2))).2.2 154 = _ := (ax_wr_ne (by decide)).trans e154
     have e155 : (ax_wr h2 151 (eI 168 (upd F (141 + 4 * nT D.1) v2))).2.2 155 = _ := (ax_wr_ne (by decide)).trans e155
     generalize ax_wr h2 151 (eI 168 (upd F (141 + 4 * nT D.1) v2)) = h3 at hb3 e145 e151 e154 e155 ⊢
     generalize hF1 : upd F (141 + 4 * nT D.1) v2 = F1 at e151 ⊢
     refine ax_aload_n dX12_readTrade_50 rfl ?_
     refine ax_getf dX12_readTrade_51 flX12_75 e145 rfl ?_
     refine ax_iload_n dX12_readTrade_54 rfl ?_
     refine ax_iconst dX12_readTrade_55 (v := nI 1) (by decide) ?_
     refine ax_iadd dX12_readTrade_56 ?_
     rw [nI_add (141 + 4 * nT D.1) 1]
     refine ax_aload_n dX12_readTrade_57 rfl ?_
     refine ax_iconst dX12_readTrade_58 (v := nI 0) (by decide) ?_
     refine ax_aload_n dX12_readTrade_59 rfl ?_
     refine ax_getf dX12_readTrade_60 flX12_75 e145 rfl ?_
     refine ax_iload_n dX12_readTrade_63 rfl ?_
     refine ax_iald dX12_readTrade_64 e151 (ax_ix_nI (j := 141 + 4 * nT D.1) (by omega) (by decide)) ?_
     rw [show F1 (141 + 4 * nT D.1) = v2 from by rw [← hF1]; exact upd_eq]
     refine ax_cV dX12_readTrade_65 mmX12_takeTold lkX12_227 miX12_takeTold msX12_takeTold (ax_recv_of e145 rfl) rfl rfl (Nat.le_of_ble_eq_true rfl) (Nat.le_of_ble_eq_true rfl) rfl rfl (k_toldP (d := d + 2) (x := pOf ts D s1.1) (fun z => (hv2 z).2) (by omega) hM.2.1 ⟨hB.1, hB.2.1⟩ ht hE o2 hT e145 (hP.k4 hb3) e154 e155 (fun j z => by have := nmOf_lt z; omega) (fun h4 v4 hc4 e145 hv4 => ⟨_, rfl, ?_⟩))
     rw [hs3] at hv4 e145
     have e151 := (hc4.2.2 151 (by decide)).trans e151
     have e154 := (hc4.2.2 154 (by decide)).trans e154
     have e155 := (hc4.2.2 155 (by decide)).trans e155
     have hb4 := hb3.tr (hc4.wide (P' := dmP) (fun j z => Or.inl z))
     refine ax_iast dX12_readTrade_68 e151 (ax_ix_nI (j := 141 + 4 * nT D.1 + 1) (by omega) (by decide)) ?_
     have hb5 : But h (ax_wr h4 151 (eI 168 (upd F1 (141 + 4 * nT D.1 + 1) v4))) dmP := hb4.wr (Or.inr (Or.inl rfl))
     have e145 : (ax_wr h4 151 (eI 168 (upd F1 (141 + 4 * nT D.1 + 1) v4))).2.2 145 = _ := (ax_wr_ne (by decide)).trans e145
     have e151 : (ax_wr h4 151 (eI 168 (upd F1 (141 + 4 * nT D.1 + 1) v4))).2.2 151 = _ := ax_wr_eq
     have e154 : (ax_wr h4 151 (eI 168 (upd F1 (141 + 4 * nT D.1 + 1) v4))).2.2 154 = _ := (ax_wr_ne (by decide)).trans e154
     have e155 : (ax_wr h4 151 (eI 168 (upd F1 (141 + 4 * nT D.1 + 1) v4))).2.2 155 = _ := (ax_wr_ne (by decide)).trans e155
     generalize ax_wr h4 151 (eI 168 (upd F1 (141 + 4 * nT D.1 + 1) v4)) = h5 at hb5 e145 e151 e154 e155 ⊢
     generalize hF2 : upd F1 (141 + 4 * nT D.1 + 1) v4 = F2 at e151 ⊢
     refine ax_aload_n dX12_readTrade_69 rfl ?_
     refine ax_bipush dX12_readTrade_70 (v := nI 8) (by decide) ?_
     refine ax_cV dX12_readTrade_72 mmX12_takeWord lkX12_172 miX12_takeWord msX12_takeWord (ax_recv_of e145 rfl) rfl rfl (Nat.le_of_ble_eq_true rfl) (Nat.le_of_ble_eq_true rfl) rfl rfl (k_takeWord (w := 8) (d := d + 1) (by omega) ht hE o3 hT e145 (hP.k4 hb5) (fun h6 hc6 e145 => ⟨_, rfl, ?_⟩))
     rw [show kwK 8 = 19 from rfl, hs4] at e145
     have e151 := (hc6.2.2 151 (by decide)).trans e151
     have e154 := (hc6.2.2 154 (by decide)).trans e154
     have e155 := (hc6.2.2 155 (by decide)).trans e155
     have hb6 := hb5.tr (hc6.wide (P' := dmP) (fun j z => Or.inl z))
     refine ax_aload_n dX12_readTrade_75 rfl ?_
     refine ax_getf dX12_readTrade_76 flX12_75 e145 rfl ?_
     refine ax_iload_n dX12_readTrade_79 rfl ?_
     refine ax_iconst dX12_readTrade_80 (v := nI 2) (by decide) ?_
     refine ax_iadd dX12_readTrade_81 ?_
     rw [nI_add (141 + 4 * nT D.1) 2]
     refine ax_aload_n dX12_readTrade_82 rfl ?_
     refine ax_iconst dX12_readTrade_83 (v := nI 1) (by decide) ?_
     refine ax_iconst dX12_readTrade_84 (v := -1) (by decide) ?_
     refine ax_cV dX12_readTrade_85 mmX12_takeTold lkX12_227 miX12_takeTold msX12_takeTold (ax_recv_of e145 rfl) rfl rfl (Nat.le_of_ble_eq_true rfl) (Nat.le_of_ble_eq_true rfl) rfl rfl (k_toldS (d := d + 2) (by omega) hM.2.1 ⟨hB.1, hB.2.1⟩ ht hE o4 hT e145 (hP.k4 hb6) e154 e155 (fun h7 v7 hc7 e145 hv7 => ⟨_, rfl, ?_⟩))
     rw [hs5] at hv7 e145
     have e151 := (hc7.2.2 151 (by decide)).trans e151
     have e154 := (hc7.2.2 154 (by decide)).trans e154
     have e155 := (hc7.2.2 155 (by decide)).trans e155
     have hb7 := hb6.tr (hc7.wide (P' := dmP) (fun j z => Or.inl z))
     refine ax_iast dX12_readTrade_88 e151 (ax_ix_nI (j := 141 + 4 * nT D.1 + 2) (by omega) (by decide)) ?_
     have hb8 : But h (ax_wr h7 151 (eI 168 (upd F2 (141 + 4 * nT D.1 + 2) v7))) dmP := hb7.wr (Or.inr (Or.inl rfl))
     have e145 : (ax_wr h7 151 (eI 168 (upd F2 (141 + 4 * nT D.1 + 2) v7))).2.2 145 = _ := (ax_wr_ne (by decide)).trans e145
     have e151 : (ax_wr h7 151 (eI 168 (upd F2 (141 + 4 * nT D.1 + 2) v7))).2.2 151 = _ := ax_wr_eq
     have e154 : (ax_wr h7 151 (eI 168 (upd F2 (141 + 4 * nT D.1 + 2) v7))).2.2 154 = _ := (ax_wr_ne (by decide)).trans e154
     have e155 : (ax_wr h7 151 (eI 168 (upd F2 (141 + 4 * nT D.1 + 2) v7))).2.2 155 = _ := (ax_wr_ne (by decide)).trans e155
     generalize ax_wr h7 151 (eI 168 (upd F2 (141 + 4 * nT D.1 + 2) v7)) = h8 at hb8 e145 e151 e154 e155 ⊢
     generalize hF3 : upd F2 (141 + 4 * nT D.1 + 2) v7 = F3 at e151 ⊢
     refine ax_aload_n dX12_readTrade_89 rfl ?_
     refine ax_getf dX12_readTrade_90 flX12_75 e145 rfl ?_
     refine ax_iload_n dX12_readTrade_93 rfl ?_
     refine ax_iconst dX12_readTrade_94 (v := nI 3) (by decide) ?_
     refine ax_iadd dX12_readTrade_95 ?_
     rw [nI_add (141 + 4 * nT D.1) 3]
     refine ax_aload_n dX12_readTrade_96 rfl ?_
     refine ax_bipush dX12_readTrade_97 (v := nI 9) (by decide) ?_
     refine ax_iconst dX12_readTrade_99 (v := nI 1) (by decide) ?_
     refine ax_sipush dX12_readTrade_100 (v := nI 999) (by decide) ?_
     refine ax_cV dX12_readTrade_103 mmX12_takeAfter lkX12_223 miX12_takeAfter msX12_takeAfter (ax_recv_of e145 rfl) rfl rfl (Nat.le_of_ble_eq_true rfl) (Nat.le_of_ble_eq_true rfl) rfl rfl (k_takeAfter (w := 9) (a := 1) (b := 999) (d := d) (by omega) (by omega) (by omega) ht hE o5 hT e145 (hP.k4 hb8) (fun h9 hc9 e145 => ⟨_, rfl, ?_⟩))
     rw [show kwK 9 = 27 from rfl, hs6, hs7] at e145 ⊢
     have e151 := (hc9.2.2 151 (by decide)).trans e151
     have e154 := (hc9.2.2 154 (by decide)).trans e154
     have e155 := (hc9.2.2 155 (by decide)).trans e155
     have hb9 := hb8.tr (hc9.wide (P' := dmP) (fun j z => Or.inl z))
     generalize hv8 : (if s7.2 = 0 then nA ts s6.1 else 0) = v8
     refine ax_iast dX12_readTrade_106 e151 (ax_ix_nI (j := 141 + 4 * nT D.1 + 3) (by omega) (by decide)) ?_
     have hbA : But h (ax_wr h9 151 (eI 168 (upd F3 (141 + 4 * nT D.1 + 3) (nI v8)))) dmP := hb9.wr (Or.inr (Or.inl rfl))
     have e145 : (ax_wr h9 151 (eI 168 (upd F3 (141 + 4 * nT D.1 + 3) (nI v8)))).2.2 145 = _ := (ax_wr_ne (by decide)).trans e145
     have e151 : (ax_wr h9 151 (eI 168 (upd F3 (141 + 4 * nT D.1 + 3) (nI v8)))).2.2 151 = _ := ax_wr_eq
     have e154 : (ax_wr h9 151 (eI 168 (upd F3 (141 + 4 * nT D.1 + 3) (nI v8)))).2.2 154 = _ := (ax_wr_ne (by decide)).trans e154
     have e155 : (ax_wr h9 151 (eI 168 (upd F3 (141 + 4 * nT D.1 + 3) (nI v8)))).2.2 155 = _ := (ax_wr_ne (by decide)).trans e155
     generalize ax_wr h9 151 (eI 168 (upd F3 (141 + 4 * nT D.1 + 3) (nI v8))) = hA at hbA e145 e151 e154 e155 ⊢
     generalize hF4 : upd F3 (141 + 4 * nT D.1 + 3) (nI v8) = F4 at e151 ⊢
     have hF4' : F4 87 = nI (nT D.1) := by rw [← hF4, ← hF3, ← hF2, ← hF1, upd_ne (by omega), upd_ne (by omega), upd_ne (by omega), upd_ne (by omega), hF]
     refine ax_aload_n dX12_readTrade_107 rfl ?_
     refine ax_getf dX12_readTrade_108 flX12_75 e145 rfl ?_
     refine ax_bipush dX12_readTrade_111 (v := nI 87) (by decide) ?_
     refine ax_dup2 dX12_readTrade_113 rfl rfl ?_
     refine ax_iald dX12_readTrade_114 e151 (ax_ix_nI (j := 87) (by omega) (by decide)) ?_
     rw [hF4']
     refine ax_iconst dX12_readTrade_115 (v := nI 1) (by decide) ?_
     refine ax_iadd dX12_readTrade_116 ?_
     rw [nI_add (nT D.1) 1]
     refine ax_iast dX12_readTrade_117 e151 (ax_ix_nI (j := 87) (by omega) (by decide)) ?_
     refine ax_return dX12_readTrade_118 rfl (hq _ _ f g n (hbA.wr (Or.inr (Or.inl rfl))) ((ax_wr_ne (by decide)).trans e145) ax_wr_eq ((ax_wr_ne (by decide)).trans e154) ((ax_wr_ne (by decide)).trans e155) (fun j z => by rw [upd_ne (by omega), ← hF4, ← hF3, ← hF2, ← hF1, upd_ne (by omega), upd_ne (by omega), upd_ne (by omega), upd_ne (by omega)]) (fun z => ?_))
     have z7 := sNum_0 (by omega) (by omega) (show (sNum ts 1 999 s6).2 = 0 from by rw [hs7]; exact z)
     have z6 := sSkip_0 (show (sSkip ts 27 s5).2 = 0 from by rw [hs6]; exact z7.1)
     have z5 := sStuff_0 (show (sStuff ts D.1 D.2.2.1 s4).2 = 0 from by rw [hs5]; exact z6.1)
     have z4 := sSkip_0 (show (sSkip ts 19 s3).2 = 0 from by rw [hs4]; exact z5.1)
     have z3 := sPlace_0 (show (sPlace ts D.1 D.2.2.2 (pOf ts D s1.1) s2).2 = 0 from by rw [hs3]; exact z4.1)
     rw [if_pos z] at hv8
     rw [← hF4, ← hF3, ← hF2, ← hF1, (hv2 z3.1).1, (hv4 z4.1).1, hv7 z6.1, ← hv8]
     exact ⟨hM.1.trade (by omega) hB.1 hB.2.2.1, hM.2⟩
    refine ax_aload_n dX12_readTrade_0 rfl ?_
    refine ax_getf dX12_readTrade_1 flX12_75 e145 rfl ?_
    refine ax_bipush dX12_readTrade_4 (v := nI 87) (by decide) ?_
    refine ax_iald dX12_readTrade_6 e151 (ax_ix_nI (j := 87) (by omega) (by decide)) ?_
    rw [hF]
    refine ax_istore_n dX12_readTrade_7 (Nat.le_of_ble_eq_true rfl) ?_
    refine ax_iload_n dX12_readTrade_8 rfl ?_
    refine ax_bipush dX12_readTrade_9 (v := nI 6) (by decide) ?_
    refine ax_icmp_neT 20 dX12_readTrade_11 (by decide) (fun z => h5 ((nI_eq (by omega) (by omega)).mp z)) ?_
    refine ax_aload_n dX12_readTrade_20 rfl ?_
    refine ax_dup dX12_readTrade_21 rfl ?_
    refine ax_getf dX12_readTrade_22 flX12_153 e145 rfl ?_
    refine ax_iconst dX12_readTrade_25 (v := nI 1) (by decide) ?_
    refine ax_iadd dX12_readTrade_26 ?_
    refine ax_putf dX12_readTrade_27 flX12_153 e145 (Nat.le_of_ble_eq_true rfl) (fun _ => ⟨rfl, rfl⟩) ?_
    rw [e1, e1']
    refine ax_sipush dX12_readTrade_30 (v := nI 141) (by decide) ?_
    refine ax_iconst dX12_readTrade_33 (v := nI 4) (by decide) ?_
    refine ax_iload_n dX12_readTrade_34 rfl ?_
    refine ax_imul dX12_readTrade_35 ?_
    refine ax_iadd dX12_readTrade_36 ?_
    refine ax_istore_n dX12_readTrade_37 (Nat.le_of_ble_eq_true rfl) ?_
    rw [pk_mul 4 (nT D.1), nI_add 141 (4 * nT D.1)]
    exact fin _ (But.rf.wr rfl) ax_wr_eq
end MDS
