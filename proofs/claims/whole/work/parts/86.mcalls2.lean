section MB3
variable {G : ax_G} {d : Nat} {h : ax_H} {Q : ax_O → ax_H → Prop} {N : Nt} {σ : Sd} {μ : Nat → Option Sd} {th ta : Int32}
theorem k_years {x : Int32} {b y : Nat} (hN : nOK N) (hB0 : Bd N σ b y) (hb0' : 5300 ≤ b) (hb1' : b < 100000) (hy : y + 50 ≤ 28000) (hI : MoI h th ta N σ μ) (hq : ∀ h', But h h' moP → MoI h' 0 ta N (sYears N σ x) μ → Q (.inl (some (.int (qYears σ x)))) h') : X G (d + 12) mX12_years 0 (ax_in 3 [.ref 145, .int x]) [] h Q := by
  obtain ⟨si, pt, fa, co, nm, rd, bc, bm, gg, F, S, O, A, e145, hB⟩ := hI
  refine ax_aload_n dX12_years_0 rfl ?_
  refine ax_iconst dX12_years_1 (v := nI 0) (by decide) ?_
  refine ax_putf dX12_years_2 flX12_1 e145 (Nat.le_of_ble_eq_true rfl) (fun _ => ⟨rfl, rfl⟩) ?_
  refine ax_hp (h1 := ax_wr h 145 (eM 0 ta si pt fa co nm rd 0 0 (-1) (-1) bc bm gg)) rfl ?_
  have hb0 : But h (ax_wr h 145 (eM 0 ta si pt fa co nm rd 0 0 (-1) (-1) bc bm gg)) moP := But.rf.wr (Or.inl rfl)
  have hB := hB.kept (h' := ax_wr h 145 (eM 0 ta si pt fa co nm rd 0 0 (-1) (-1) bc bm gg)) (fun j z1 z2 => ax_wr_ne (by omega))
  have e145 : (ax_wr h 145 (eM 0 ta si pt fa co nm rd 0 0 (-1) (-1) bc bm gg)).2.2 145 = some (eM 0 ta si pt fa co nm rd 0 0 (-1) (-1) bc bm gg) := ax_wr_eq
  generalize ax_wr h 145 (eM 0 ta si pt fa co nm rd 0 0 (-1) (-1) bc bm gg) = h1 at hb0 hB e145 ⊢
  have hI1 : MoI h1 0 ta N σ μ := ⟨si, pt, fa, co, nm, rd, bc, bm, gg, F, S, O, A, e145, hB⟩
  obtain ⟨hF, hFT, hL, hM, hR, hSt, hMk⟩ := id hB
  obtain ⟨e151, e152, e153, e159, a157, a158⟩ := id hM
  obtain ⟨hS, hSc, s7, s8⟩ := id hSt
  obtain ⟨f0, f1, f2, f3, fs, fr⟩ := id hF
  have hS5 := hN.1
  have hP7 := hN.2.1
  have hR10 := hN.2.2.1
  have hT6 := hN.2.2.2.1
  unfold qYears sYears at hq
  refine ax_iload_n dX12_years_5 rfl ?_
  refine ax_cS dX12_years_6 mmX12_areYears lkX12_343 mtX12_areYears rfl rfl (Nat.le_of_ble_eq_true rfl) (Nat.le_of_ble_eq_true rfl) rfl rfl (k_areYears ⟨_, rfl, ?_⟩)
  rcases yrs_cases x with ⟨hs, hb⟩ | ⟨n, hn1, hn50, rfl, hs, hb⟩
  · rw [hs] at hq
    rw [hb]
    refine ax_if_neF 14 dX12_years_9 (by decide) rfl ?_
    refine ax_iconst dX12_years_12 (v := -1) (by decide) ?_
    exact ax_ireturn dX12_years_13 rfl (hq h1 hb0 hI1)
  · rw [hs] at hq
    rw [hb]
    dsimp only at hq
    have loop : ∀ (m i : Nat) (bc bm : Int32) (S : Nat → Int32) (h2 : ax_H), i + m = n → But h h2 moP → h2.2.2 145 = some (eM 0 ta si pt fa co nm rd 0 0 (-1) (-1) bc bm gg) → MoB h2 F S O A N (yN N 40 (trN N) (nT N) none σ i) μ → X G (d + 12) mX12_years 16 [some (.ref 145), some (.int (nI n)), some (.int (nI i))] [] h2 Q := by
      intro m
      induction m with
      | zero =>
        intro i bc bm S h2 hi hbb e145 hB2
        obtain rfl : i = n := by omega
        have e159 := hB2.2.2.2.1.2.2.2.1
        have hs0 := hB2.2.2.2.2.2.1.1.1
        rw [yN_y] at hs0
        refine ax_iload_n dX12_years_16 rfl ?_
        refine ax_iload_n dX12_years_17 rfl ?_
        refine ax_icmp_geT 31 dX12_years_18 (by decide) (Int32.le_refl _) ?_
        refine ax_aload_n dX12_years_31 rfl ?_
        refine ax_getf dX12_years_32 flX12_99 e145 rfl ?_
        refine ax_iconst dX12_years_35 (v := nI 0) (by decide) ?_
        refine ax_iald dX12_years_36 e159 (ax_ix_nI (j := 0) (by decide) (by decide)) ?_
        rw [hs0]
        exact ax_ireturn dX12_years_37 rfl (hq h2 hbb ⟨si, pt, fa, co, nm, rd, bc, bm, gg, F, S, O, A, e145, hB2⟩)
      | succ m ih =>
        intro i bc bm S h2 hi hbb e145 hB2
        obtain ⟨-, -, -, hM2, hR2, hSt2, hMk2⟩ := id hB2
        have hBi := hB0.years (kp := 40) (sw := none) hN hN.tr hb0' i
        have h5 := hBi.2.2.2.2
        refine ax_iload_n dX12_years_16 rfl ?_
        refine ax_iload_n dX12_years_17 rfl ?_
        refine ax_icmp_geF 31 dX12_years_18 (by decide) (nI_ge (by omega) (by omega)) ?_
        refine ax_aload_n dX12_years_21 rfl ?_
        refine ax_cV dX12_years_22 mmX12_passes lkX12_346 miX12_passes msX12_passes (ax_recv_of e145 rfl) rfl rfl (Nat.le_of_ble_eq_true rfl) (Nat.le_of_ble_eq_true rfl) rfl rfl (k_passes (d := d) (kp := 40) (swo := none) hN.tr hFT.td (show F 3 + 0 = nI (nT N) by rw [f3]; exact Int32.add_zero _) (Or.inl rfl) rfl (fun r hr => by cases hr) hN (Bd.ok hb1' (by omega) hBi) hBi.2.2.2.1 (by omega) hF hL hSt2.1 hSt2.2.1 hM2 hR2 e145 (fun h3 S3 bc3 bm3 hb3 e3 hM3 hR3 hS3 hSc3 ht3 hl3 => ⟨_, rfl, ?_⟩))
        have hyr := hSt2.year hN hS3 hSc3 ht3 hl3
        refine ax_iinc dX12_years_25 rfl (ax_inc 1) ?_
        refine ax_goto 16 dX12_years_28 (by decide) ?_
        rw [nI_add i 1]
        exact ih (i + 1) bc3 bm3 S3 h3 (by omega) (hbb.tr (hb3.wide (fun j z => by unfold psP at z; unfold moP; omega))) e3 ⟨hF, hFT, hL, hM3, hR3, hyr.1, hMk2.st hN (hb3.2.2 160 (by unfold psP; omega)) (fun j z1 _ => hyr.2 j z1)⟩
    refine ax_if_neT 14 dX12_years_9 (by decide) (by decide) ?_
    refine ax_iconst dX12_years_14 (v := nI 0) (by decide) ?_
    refine ax_istore_n dX12_years_15 (Nat.le_of_ble_eq_true rfl) ?_
    exact loop n 0 bc bm S h1 (by omega) hb0 e145 hB
theorem MoB.fw {h' : ax_H} {F S O A : Nat → Int32} (a : MoB h F S O A N σ μ) (hb : But h h' fwP) (hM : MC h' F S O A) (x1 : anA h' 161 10) (x2 : anA h' 162 10) (x3 : anA h' 163 10) : MoB h' F S O A N σ μ := by
  obtain ⟨a1, a2, a3, a4, a5, a6, a7⟩ := a
  obtain ⟨-, -, -, b4, b5, b6⟩ := a5
  exact ⟨a1, a2, a3, hM, ⟨x1, x2, x3, b4.kept (hb.2.2 _ (by unfold fwP; omega)), b5.kept (hb.2.2 _ (by unfold fwP; omega)), b6.kept (hb.2.2 _ (by unfold fwP; omega))⟩, a6, a7.kept (hb.2.2 160 (by unfold fwP; omega))⟩
theorem k_way {x i : Int32} (hN : nOK N) (hO : sOK N σ) (hI : MoI h th ta N σ μ) (hq : ∀ h', But h h' moP → MoI h' 0 ta N σ μ → Q (.inl (some (.int (qWay N σ x i)))) h') : X G (d + 10) mX12_way 0 (ax_in 3 [.ref 145, .int x, .int i]) [] h Q := by
  obtain ⟨si, pt, fa, co, nm, rd, bc, bm, gg, F, S, O, A, e145, hB⟩ := hI
  refine ax_aload_n dX12_way_0 rfl ?_
  refine ax_iconst dX12_way_1 (v := nI 0) (by decide) ?_
  refine ax_putf dX12_way_2 flX12_1 e145 (Nat.le_of_ble_eq_true rfl) (fun _ => ⟨rfl, rfl⟩) ?_
  refine ax_hp (h1 := ax_wr h 145 (eM 0 ta si pt fa co nm rd 0 0 (-1) (-1) bc bm gg)) rfl ?_
  have hb0 : But h (ax_wr h 145 (eM 0 ta si pt fa co nm rd 0 0 (-1) (-1) bc bm gg)) moP := But.rf.wr (Or.inl rfl)
  have hB := hB.kept (h' := ax_wr h 145 (eM 0 ta si pt fa co nm rd 0 0 (-1) (-1) bc bm gg)) (fun j z1 z2 => ax_wr_ne (by omega))
  have e145 : (ax_wr h 145 (eM 0 ta si pt fa co nm rd 0 0 (-1) (-1) bc bm gg)).2.2 145 = some (eM 0 ta si pt fa co nm rd 0 0 (-1) (-1) bc bm gg) := ax_wr_eq
  generalize ax_wr h 145 (eM 0 ta si pt fa co nm rd 0 0 (-1) (-1) bc bm gg) = h1 at hb0 hB e145 ⊢
  have hI1 : MoI h1 0 ta N σ μ := ⟨si, pt, fa, co, nm, rd, bc, bm, gg, F, S, O, A, e145, hB⟩
  obtain ⟨hF, hFT, hL, hM, hR, hSt, hMk⟩ := id hB
  obtain ⟨e151, e152, e153, e159, a157, a158⟩ := id hM
  obtain ⟨hS, hSc, s7, s8⟩ := id hSt
  obtain ⟨f0, f1, f2, f3, fs, fr⟩ := id hF
  have hS5 := hN.1
  have hP7 := hN.2.1
  have hR10 := hN.2.2.1
  have hT6 := hN.2.2.2.1
  unfold qWay at hq
  refine ax_aload_n dX12_way_5 rfl ?_
  refine ax_iload_n dX12_way_6 rfl ?_
  refine ax_cV dX12_way_7 mmX12_isTrade lkX12_340 miX12_isTrade msX12_isTrade (ax_recv_of e145 rfl) rfl rfl (Nat.le_of_ble_eq_true rfl) (Nat.le_of_ble_eq_true rfl) rfl rfl (k_isTrade (Or.inl rfl) e145 e151 ⟨_, rfl, ?_⟩)
  rw [show F 3 + 0 = nI (nT N) by rw [f3]; exact Int32.add_zero _]
  rcases ix_cases (n := nT N) (by omega) x with ⟨hs, hb, -⟩ | ⟨t, ht, rfl, hs, hb⟩
  · rw [hs] at hq
    rw [hb]
    refine ax_if_eqT 42 dX12_way_10 (by decide) rfl ?_
    refine ax_iconst dX12_way_42 (v := -1) (by decide) ?_
    exact ax_ireturn dX12_way_43 rfl (hq h1 hb0 hI1)
  · rw [hs] at hq
    rw [hb]
    dsimp only at hq
    by_cases hi0 : i < 0
    · have hno : ∀ n : Nat, ixN n i = none := fun n => if_neg (fun q => q.1 hi0)
      refine ax_if_eqF 42 dX12_way_10 (by decide) (by decide) ?_
      refine ax_iload_n dX12_way_13 rfl ?_
      refine ax_if_ltT 42 dX12_way_14 (by decide) hi0 ?_
      have hq1 := hq h1 hb0 hI1
      rw [hno] at hq1
      have e : (if (wyT N σ t).2 = some (N.1 7 t) then (match (none : Option Nat) with | none => (-1 : Int32) | some j => nI ((wyT N σ t).1.getD j 0)) else -1) = -1 := by split <;> rfl
      rw [e] at hq1
      refine ax_iconst dX12_way_42 (v := -1) (by decide) ?_
      exact ax_ireturn dX12_way_43 rfl hq1
    · refine ax_if_eqF 42 dX12_way_10 (by decide) (by decide) ?_
      refine ax_iload_n dX12_way_13 rfl ?_
      refine ax_if_ltF 42 dX12_way_14 (by decide) hi0 ?_
      refine ax_aload_n dX12_way_17 rfl ?_
      refine ax_iload_n dX12_way_18 rfl ?_
      refine ax_cV dX12_way_19 mmX12_findWay lkX12_320 miX12_findWay msX12_findWay (ax_recv_of e145 rfl) rfl rfl (Nat.le_of_ble_eq_true rfl) (Nat.le_of_ble_eq_true rfl) rfl rfl (k_findWay (d := d) ht hN.tr hFT.td hN hO hF hL hS hM hR.1 hR.2.1 hR.2.2.1 e145 (fun h2 hb2 hM2 x1 x2 hG2 => ⟨_, rfl, ?_⟩))
      obtain ⟨e145, g1, g2, g3, Bf, e163, gB⟩ := id hG2
      have hq2 := hq h2 (hb0.tr (hb2.wide (fun j z => by unfold fwP at z; unfold moP; omega))) ⟨si, pt, fa, co, nm, rd, _, _, gg, F, S, O, A, e145, hB.fw hb2 hM2 x1 x2 ⟨Bf, e163⟩⟩
      by_cases hfd : (wyT N σ t).2 = some (N.1 7 t)
      · rw [if_pos hfd] at hq2
        have ef : fwS N σ (trN N) t = ((bfN N (pv N σ (N.1 9 t)) (N.1 7 t) 7).1 (N.1 6 t), (wyT N σ t).1) := if_pos hfd
        rw [ef] at g3 gB e145
        rw [show b1 ((wy N (pv N σ (trN N 3 t)) (trN N 0 t) (trN N 1 t)).2 = some (trN N 1 t)) = 1 from b1_t hfd]
        refine ax_if_eqF 42 dX12_way_22 (by decide) (by decide) ?_
        dsimp only at g3 gB
        rcases ix_cases (n := (wyT N σ t).1.length) (by omega) i with ⟨hw, -, ho⟩ | ⟨j, hj, rfl, hw, -⟩
        · rw [hw] at hq2
          refine ax_iload_n dX12_way_25 rfl ?_
          refine ax_aload_n dX12_way_26 rfl ?_
          refine ax_getf dX12_way_27 flX12_304 e145 rfl ?_
          refine ax_icmp_geT 42 dX12_way_30 (by decide) (ho.resolve_left hi0) ?_
          refine ax_iconst dX12_way_42 (v := -1) (by decide) ?_
          exact ax_ireturn dX12_way_43 rfl hq2
        · rw [hw] at hq2
          refine ax_iload_n dX12_way_25 rfl ?_
          refine ax_aload_n dX12_way_26 rfl ?_
          refine ax_getf dX12_way_27 flX12_304 e145 rfl ?_
          refine ax_icmp_geF 42 dX12_way_30 (by decide) (nI_ge (b := (wyT N σ t).1.length) hj (by omega)) ?_
          refine ax_aload_n dX12_way_33 rfl ?_
          refine ax_getf dX12_way_34 flX12_118 e145 rfl ?_
          refine ax_iload_n dX12_way_37 rfl ?_
          refine ax_iald dX12_way_38 e163 (ax_ix_nI (j := j) (by omega) (by decide)) ?_
          rw [gB j hj]
          refine ax_goto 43 dX12_way_39 (by decide) ?_
          exact ax_ireturn dX12_way_43 rfl hq2
      · rw [if_neg hfd] at hq2
        rw [show b1 ((wy N (pv N σ (trN N 3 t)) (trN N 0 t) (trN N 1 t)).2 = some (trN N 1 t)) = 0 from b1_f hfd]
        refine ax_if_eqT 42 dX12_way_22 (by decide) rfl ?_
        refine ax_iconst dX12_way_42 (v := -1) (by decide) ?_
        exact ax_ireturn dX12_way_43 rfl hq2
theorem k_cost {x : Int32} (hN : nOK N) (hO : sOK N σ) (hI : MoI h th ta N σ μ) (hq : ∀ v h', qCost N σ x = some v → But h h' moP → MoI h' 0 ta N σ μ → Q (.inl (some (.int v))) h') (hx : qCost N σ x = none → ∀ h', But h h' moP → MoI h' 1 ta N σ μ → Q (.inl (some (.int 0))) h') : X G (d + 10) mX12_cost 0 (ax_in 2 [.ref 145, .int x]) [] h Q := by
  obtain ⟨si, pt, fa, co, nm, rd, bc, bm, gg, F, S, O, A, e145, hB⟩ := hI
  obtain ⟨hF, hFT, hL, hM, hR, hSt, hMk⟩ := id hB
  obtain ⟨e151, e152, e153, e159, a157, a158⟩ := id hM
  obtain ⟨f0, f1, f2, f3, fs, fr⟩ := id hF
  have hT6 := hN.2.2.2.1
  unfold qCost at hq hx
  have bad : ∀ (h2 : ax_H) (bc bm : Int32), (match ixN (nT N) x with | none => none | some t => if (wyT N σ t).2 = some (N.1 7 t) then some (nI ((bfN N (pv N σ (N.1 9 t)) (N.1 7 t) 7).1 (N.1 6 t) / 16)) else none) = none → But h h2 moP → h2.2.2 145 = some (eM th ta si pt fa co nm rd 0 0 (-1) (-1) bc bm gg) → MoB h2 F S O A N σ μ → X G (d + 10) mX12_cost 21 [some (.ref 145), some (.int x)] [.ref 145] h2 Q := by
    intro h2 bc bm hz hb2 e145 hB2
    refine ax_iconst dX12_cost_21 (v := nI 1) (by decide) ?_
    refine ax_putf dX12_cost_22 flX12_1 e145 (Nat.le_of_ble_eq_true rfl) (fun _ => ⟨rfl, rfl⟩) ?_
    refine ax_aload_n dX12_cost_25 rfl ?_
    refine ax_getf dX12_cost_26 flX12_1 ax_wr_eq rfl ?_
    refine ax_if_leF 36 dX12_cost_29 (by decide) (by decide) ?_
    refine ax_iconst dX12_cost_32 (v := nI 0) (by decide) ?_
    refine ax_goto 40 dX12_cost_33 (by decide) ?_
    exact ax_ireturn dX12_cost_40 rfl (hx hz _ (hb2.wr (Or.inl rfl)) ⟨si, pt, fa, co, nm, rd, bc, bm, gg, F, S, O, A, ax_wr_eq, hB2.kept (fun j z1 z2 => ax_wr_ne (by omega))⟩)
  refine ax_aload_n dX12_cost_0 rfl ?_
  refine ax_aload_n dX12_cost_1 rfl ?_
  refine ax_iload_n dX12_cost_2 rfl ?_
  refine ax_cV dX12_cost_3 mmX12_isTrade lkX12_340 miX12_isTrade msX12_isTrade (ax_recv_of e145 rfl) rfl rfl (Nat.le_of_ble_eq_true rfl) (Nat.le_of_ble_eq_true rfl) rfl rfl (k_isTrade (Or.inl rfl) e145 e151 ⟨_, rfl, ?_⟩)
  rw [show F 3 + 0 = nI (nT N) by rw [f3]; exact Int32.add_zero _]
  rcases ix_cases (n := nT N) (by omega) x with ⟨hs, hb, -⟩ | ⟨t, ht, rfl, hs, hb⟩
  · rw [hb]
    refine ax_if_eqT 21 dX12_cost_6 (by decide) rfl ?_
    exact bad h bc bm (by rw [hs]) But.rf e145 hB
  · rw [hb]
    rw [hs] at hq
    dsimp only at hq
    refine ax_if_eqF 21 dX12_cost_6 (by decide) (by decide) ?_
    refine ax_aload_n dX12_cost_9 rfl ?_
    refine ax_iload_n dX12_cost_10 rfl ?_
    refine ax_cV dX12_cost_11 mmX12_findWay lkX12_320 miX12_findWay msX12_findWay (ax_recv_of e145 rfl) rfl rfl (Nat.le_of_ble_eq_true rfl) (Nat.le_of_ble_eq_true rfl) rfl rfl (k_findWay (d := d) ht hN.tr hFT.td hN hO hF hL hSt.1 hM hR.1 hR.2.1 hR.2.2.1 e145 (fun h2 hb2 hM2 x1 x2 hG2 => ⟨_, rfl, ?_⟩))
    obtain ⟨e145, g1, g2, g3, Bf, e163, gB⟩ := id hG2
    have hB2 := hB.fw hb2 hM2 x1 x2 ⟨Bf, e163⟩
    have hbm : But h h2 moP := hb2.wide (fun j z => by unfold fwP at z; unfold moP; omega)
    by_cases hfd : (wyT N σ t).2 = some (N.1 7 t)
    · rw [if_pos hfd] at hq
      have ef : fwS N σ (trN N) t = ((bfN N (pv N σ (N.1 9 t)) (N.1 7 t) 7).1 (N.1 6 t), (wyT N σ t).1) := if_pos hfd
      rw [ef] at e145
      rw [show b1 ((wy N (pv N σ (trN N 3 t)) (trN N 0 t) (trN N 1 t)).2 = some (trN N 1 t)) = 1 from b1_t hfd]
      refine ax_if_eqF 21 dX12_cost_14 (by decide) (by decide) ?_
      refine ax_iconst dX12_cost_17 (v := nI 0) (by decide) ?_
      refine ax_goto 22 dX12_cost_18 (by decide) ?_
      refine ax_putf dX12_cost_22 flX12_1 e145 (Nat.le_of_ble_eq_true rfl) (fun _ => ⟨rfl, rfl⟩) ?_
      refine ax_aload_n dX12_cost_25 rfl ?_
      refine ax_getf dX12_cost_26 flX12_1 ax_wr_eq rfl ?_
      refine ax_if_leT 36 dX12_cost_29 (by decide) (by decide) ?_
      refine ax_aload_n dX12_cost_36 rfl ?_
      refine ax_getf dX12_cost_37 flX12_301 ax_wr_eq rfl ?_
      exact ax_ireturn dX12_cost_40 rfl (hq _ _ rfl (hbm.wr (Or.inl rfl)) ⟨si, pt, fa, co, nm, rd, _, _, gg, F, S, O, A, ax_wr_eq, hB2.kept (fun j z1 z2 => ax_wr_ne (by omega))⟩)
    · rw [show b1 ((wy N (pv N σ (trN N 3 t)) (trN N 0 t) (trN N 1 t)).2 = some (trN N 1 t)) = 0 from b1_f hfd]
      refine ax_if_eqT 21 dX12_cost_14 (by decide) rfl ?_
      exact bad h2 _ _ (by rw [hs]; exact if_neg hfd) hbm e145 hB2
/-- the holes together behind n years of a trial -/
theorem k_holesBehind {T n b y : Nat} {tr : Nat → Nat → Nat} {swo : Option Nat} {si pt fa co nm rd nw os sw bc bm : Int32} {gg : Int64} {F S0 O A : Nat → Int32} (htr : trOK N T tr) (hTd : TdI F os T tr) (hT : F 3 + nw = nI T) (hnw : nw = 0 ∨ nw = 1) (hsw : sw = on swo) (hsw2 : ∀ j, swo = some j → j < 100) (hN : nOK N) (hB0 : Bd N σ b y) (hb0' : 5300 ≤ b) (hb1' : b < 100000) (hy : y + n ≤ 28000) (hF : FnB F N) (hL : FnL F O A N) (hM : MC h F S0 O A) (hR : MR h) (hS : Sb S0 N σ) (hSc : Sc S0 (nS N) (σ 5) (σ 6) (σ 4)) (e145 : h.2.2 145 = some (eM th ta si pt fa co nm rd 0 nw os sw bc bm gg))
    (hq : ∀ h' S' bc' bm', But h h' psP → h'.2.2 145 = some (eM th ta si pt fa co nm rd 0 0 (-1) (-1) bc' bm' gg) → MC h' F S' O A → MR h' → (∀ j, j < 10700 → S' j = S0 j) → Q (.inl (some (.int (nI (hA N σ tr T n swo))))) h') : X G (d + 12) mX12_holesBehind 0 (ax_in 3 [.ref 145, .int (nI n)]) [] h Q := by
  refine ax_aload_n dX12_holesBehind_0 rfl ?_
  refine ax_cV dX12_holesBehind_1 mmX12_aside lkX12_349 miX12_aside msX12_aside (ax_recv_of e145 rfl) rfl rfl (Nat.le_of_ble_eq_true rfl) (Nat.le_of_ble_eq_true rfl) rfl rfl (k_aside (d := d + 10) hN hM hR hS hSc e145 (fun h1 S1 hb1 e1 hI1 hlo => ⟨_, rfl, ?_⟩))
  have loop : ∀ (m i : Nat) (bc bm : Int32) (S : Nat → Int32) (h2 : ax_H), i + m = n → But h h2 psP → h2.2.2 145 = some (eM th ta si pt fa co nm rd 1 nw os sw bc bm gg) → TrI h2 S0 S F O A N (yN N 0 tr T swo σ i) → X G (d + 12) mX12_holesBehind 6 [some (.ref 145), some (.int (nI n)), some (.int (nI i))] [] h2 Q := by
    intro m
    induction m with
    | zero =>
      intro i bc bm S h2 hi hbb e145 hI2
      obtain rfl : i = n := by omega
      have hBi := hB0.years (kp := 0) (sw := swo) hN htr hb0' i
      refine ax_iload_n dX12_holesBehind_6 rfl ?_
      refine ax_iload_n dX12_holesBehind_7 rfl ?_
      refine ax_icmp_geT 21 dX12_holesBehind_8 (by decide) (Int32.le_refl _) ?_
      refine ax_aload_n dX12_holesBehind_21 rfl ?_
      refine ax_cV dX12_holesBehind_22 mmX12_allHoles lkX12_359 miX12_allHoles msX12_allHoles (ax_recv_of e145 rfl) rfl rfl (Nat.le_of_ble_eq_true rfl) (Nat.le_of_ble_eq_true rfl) rfl rfl (k_allHoles (d := d + 10) hN (fun r hr => by have := hBi.1 r hr; omega) hF hI2.2.2.1 e145 hI2.1.1 hI2.1.2.2.2.1 ⟨_, rfl, ?_⟩)
      refine ax_istore_n dX12_holesBehind_25 (Nat.le_of_ble_eq_true rfl) ?_
      refine ax_aload_n dX12_holesBehind_26 rfl ?_
      refine ax_cV dX12_holesBehind_27 mmX12_back lkX12_352 miX12_back msX12_back (ax_recv_of e145 rfl) rfl rfl (Nat.le_of_ble_eq_true rfl) (Nat.le_of_ble_eq_true rfl) rfl rfl (k_back (d := d + 10) hI2 e145 (fun h3 S3 hb3 e3 hM3 hR3 hlo3 => ⟨_, rfl, ?_⟩))
      refine ax_iload_n dX12_holesBehind_30 rfl ?_
      exact ax_ireturn dX12_holesBehind_31 rfl (hq h3 S3 _ _ (hbb.tr (hb3.wide (fun j z => by unfold asP at z; unfold psP; omega))) e3 hM3 hR3 hlo3)
    | succ m ih =>
      intro i bc bm S h2 hi hbb e145 hI2
      have hBi := hB0.years (kp := 0) (sw := swo) hN htr hb0' i
      refine ax_iload_n dX12_holesBehind_6 rfl ?_
      refine ax_iload_n dX12_holesBehind_7 rfl ?_
      refine ax_icmp_geF 21 dX12_holesBehind_8 (by decide) (nI_ge (by omega) (by omega)) ?_
      refine ax_aload_n dX12_holesBehind_11 rfl ?_
      refine ax_cV dX12_holesBehind_12 mmX12_passes lkX12_346 miX12_passes msX12_passes (ax_recv_of e145 rfl) rfl rfl (Nat.le_of_ble_eq_true rfl) (Nat.le_of_ble_eq_true rfl) rfl rfl (k_tpass (d := d) htr hTd hT hnw hsw hsw2 hN hBi hb1' (by omega) hF hL hI2 e145 (fun h3 S3 bc3 bm3 hb3 e3 hI3 => ⟨_, rfl, ?_⟩))
      refine ax_iinc dX12_holesBehind_15 rfl (ax_inc 1) ?_
      refine ax_goto 6 dX12_holesBehind_18 (by decide) ?_
      rw [nI_add i 1]
      exact ih (i + 1) bc3 bm3 S3 h3 (by omega) (hbb.tr hb3) e3 hI3
  refine ax_iconst dX12_holesBehind_4 (v := nI 0) (by decide) ?_
  refine ax_istore_n dX12_holesBehind_5 (Nat.le_of_ble_eq_true rfl) ?_
  exact loop n 0 bc bm S1 h1 (by omega) (hb1.wide (fun j z => by unfold asP at z; unfold psP; omega)) e1 hI1
end MB3
