section MB5
variable {G : ax_G} {d : Nat} {h : ax_H} {Q : ax_O → ax_H → Prop} {N : Nt} {σ : Sd} {μ : Nat → Option Sd} {th ta : Int32}
theorem k_starves {x w : Int32} {b y : Nat} (hN : nOK N) (hB0 : Bd N σ b y) (hb0' : 5300 ≤ b) (hb1' : b < 100000) (hy : y + 51 ≤ 28000) (hI : MoI h th ta N σ μ) (hq : ∀ h', But h h' moP → MoI h' 0 ta N σ μ → Q (.inl (some (.int (qStarves N σ x w)))) h') : X G (d + 12) mX12_starves 0 (ax_in 4 [.ref 145, .int x, .int w]) [] h Q := by
  obtain ⟨si, pt, fa, co, nm, rd, bc, bm, gg, F, S, O, A, e145, hB⟩ := hI
  refine ax_aload_n dX12_starves_0 rfl ?_
  refine ax_iconst dX12_starves_1 (v := nI 0) (by decide) ?_
  refine ax_putf dX12_starves_2 flX12_1 e145 (Nat.le_of_ble_eq_true rfl) (fun _ => ⟨rfl, rfl⟩) ?_
  refine ax_hp (h1 := ax_wr h 145 (eM 0 ta si pt fa co nm rd 0 0 (-1) (-1) bc bm gg)) rfl ?_
  have hb0 : But h (ax_wr h 145 (eM 0 ta si pt fa co nm rd 0 0 (-1) (-1) bc bm gg)) moP := But.rf.wr (Or.inl rfl)
  have hB := hB.kept (h' := ax_wr h 145 (eM 0 ta si pt fa co nm rd 0 0 (-1) (-1) bc bm gg)) (fun j z1 z2 => ax_wr_ne (by omega))
  have e145 : (ax_wr h 145 (eM 0 ta si pt fa co nm rd 0 0 (-1) (-1) bc bm gg)).2.2 145 = some (eM 0 ta si pt fa co nm rd 0 0 (-1) (-1) bc bm gg) := ax_wr_eq
  generalize ax_wr h 145 (eM 0 ta si pt fa co nm rd 0 0 (-1) (-1) bc bm gg) = h1 at hb0 hB e145 ⊢
  have hI1 : MoI h1 0 ta N σ μ := ⟨si, pt, fa, co, nm, rd, bc, bm, gg, F, S, O, A, e145, hB⟩
  obtain ⟨hF, hFT, hL, hM, hR, hSt, hMk⟩ := id hB
  obtain ⟨e151, e152, e153, e159, a157, a158⟩ := id hM
  obtain ⟨hS, hSc, s7, s8⟩ := id hSt
  obtain ⟨f0, f1, f2, f3, fs, fr⟩ := id hF
  have hS5 := hN.1
  have hP7 := hN.2.1
  have hR10 := hN.2.2.1
  have hT6 := hN.2.2.2.1
  unfold qStarves at hq
  have hT0 : F 3 + 0 = nI (nT N) := by rw [f3]; exact Int32.add_zero _
  refine ax_aload_n dX12_starves_5 rfl ?_
  refine ax_iload_n dX12_starves_6 rfl ?_
  refine ax_cV dX12_starves_7 mmX12_isRoad lkX12_337 miX12_isRoad msX12_isRoad (ax_recv_of e145 rfl) rfl rfl (Nat.le_of_ble_eq_true rfl) (Nat.le_of_ble_eq_true rfl) rfl rfl (k_isRoad e145 e151 ⟨_, rfl, ?_⟩)
  rw [f2]
  rcases ix_cases (n := nR N) (by omega) x with ⟨hs, hb, -⟩ | ⟨r, hr, rfl, hs, hb⟩
  · rw [hs] at hq
    rw [hb]
    refine ax_if_eqT 20 dX12_starves_10 (by decide) rfl ?_
    refine ax_iconst dX12_starves_20 (v := -1) (by decide) ?_
    exact ax_ireturn dX12_starves_21 rfl (hq h1 hb0 hI1)
  · rw [hs] at hq
    rw [hb]
    refine ax_if_eqF 20 dX12_starves_10 (by decide) (by decide) ?_
    refine ax_iload_n dX12_starves_13 rfl ?_
    refine ax_cS dX12_starves_14 mmX12_areYears lkX12_343 mtX12_areYears rfl rfl (Nat.le_of_ble_eq_true rfl) (Nat.le_of_ble_eq_true rfl) rfl rfl (k_areYears ⟨_, rfl, ?_⟩)
    rcases yrs_cases w with ⟨hw, hb⟩ | ⟨n, hn1, hn50, rfl, hw, hb⟩
    · rw [hw] at hq
      rw [hb]
      refine ax_if_neF 22 dX12_starves_17 (by decide) rfl ?_
      refine ax_iconst dX12_starves_20 (v := -1) (by decide) ?_
      exact ax_ireturn dX12_starves_21 rfl (hq h1 hb0 hI1)
    · rw [hw] at hq
      rw [hb]
      dsimp only at hq
      generalize hV : (if 1000 ≤ σ 1 r then nI 0 else on (wb N (trN N) (nT N) r n 1 σ)) = V at hq
      have loop : ∀ (m i : Nat) (bc bm : Int32) (S2 : Nat → Int32) (h2 : ax_H) (τ : Sd), i + m = n + 1 → But h1 h2 psP → h2.2.2 145 = some (eM 0 ta si pt fa co nm rd 1 0 (-1) (-1) bc bm gg) → TrI h2 S S2 F O A N τ → Bd N τ b (y + i) → V = (if i ≤ n then (if 1000 ≤ τ 1 r then nI i else on (wb N (trN N) (nT N) r (n - i) (i + 1) τ)) else -1) → X G (d + 12) mX12_starves 28 [some (.ref 145), some (.int (nI r)), some (.int (nI n)), some (.int (nI i))] [] h2 Q := by
        intro m
        induction m with
        | zero =>
          intro i bc bm S2 h2 τ hi hbb e145 hI2 hBi hR'
          obtain rfl : i = n + 1 := by omega
          rw [if_neg (by omega)] at hR'
          rw [hR'] at hq
          refine ax_iload_n dX12_starves_28 rfl ?_
          refine ax_iload_n dX12_starves_29 rfl ?_
          refine ax_icmp_gtT 51 dX12_starves_30 (by decide) (nI_lt (by omega) (by omega)) ?_
          refine ax_aload_n dX12_starves_51 rfl ?_
          refine ax_cV dX12_starves_52 mmX12_back lkX12_352 miX12_back msX12_back (ax_recv_of e145 rfl) rfl rfl (Nat.le_of_ble_eq_true rfl) (Nat.le_of_ble_eq_true rfl) rfl rfl (k_back (d := d + 10) hI2 e145 (fun h3 S3 hb3 e3 hM3 hR3 hlo3 => ⟨_, rfl, ?_⟩))
          refine ax_iload_n dX12_starves_55 rfl ?_
          refine ax_iload_n dX12_starves_56 rfl ?_
          refine ax_icmp_leF 64 dX12_starves_57 (by decide) (nI_ge (by omega) (by omega)) ?_
          have hb4 : But h1 h3 psP := hbb.tr (hb3.wide (fun j z => by unfold asP at z; unfold psP; omega))
          refine ax_iconst dX12_starves_60 (v := -1) (by decide) ?_
          refine ax_goto 65 dX12_starves_61 (by decide) ?_
          exact ax_ireturn dX12_starves_65 rfl (hq h3 (hb0.tr (hb4.wide (fun j z => by unfold psP at z; unfold moP; omega))) ⟨si, pt, fa, co, nm, rd, _, _, gg, F, S3, O, A, e3, hB.bk hN hb4 hM3 hR3 hlo3⟩)
        | succ m ih =>
          intro i bc bm S2 h2 τ hi hbb e145 hI2 hBi hR'
          rw [if_pos (by omega)] at hR'
          have hh := hBi.1 r (by omega)
          refine ax_iload_n dX12_starves_28 rfl ?_
          refine ax_iload_n dX12_starves_29 rfl ?_
          refine ax_icmp_gtF 51 dX12_starves_30 (by decide) (nI_nlt (by omega) (by omega)) ?_
          refine ax_aload_n dX12_starves_33 rfl ?_
          refine ax_iload_n dX12_starves_34 rfl ?_
          refine ax_cV dX12_starves_35 mmX12_isWorn lkX12_311 miX12_isWorn msX12_isWorn (ax_recv_of e145 rfl) rfl rfl (Nat.le_of_ble_eq_true rfl) (Nat.le_of_ble_eq_true rfl) rfl rfl (k_isWorn (by omega) e145 hI2.1.2.2.2.1 ⟨_, rfl, ?_⟩)
          rw [hI2.2.2.1.2.1 r hr]
          by_cases hc : 1000 ≤ τ 1 r
          · rw [if_pos hc] at hR'
            rw [hR'] at hq
            rw [b1_t (nI_nlt hc (by omega))]
            refine ax_if_neT 51 dX12_starves_38 (by decide) (by decide) ?_
            refine ax_aload_n dX12_starves_51 rfl ?_
            refine ax_cV dX12_starves_52 mmX12_back lkX12_352 miX12_back msX12_back (ax_recv_of e145 rfl) rfl rfl (Nat.le_of_ble_eq_true rfl) (Nat.le_of_ble_eq_true rfl) rfl rfl (k_back (d := d + 10) hI2 e145 (fun h3 S3 hb3 e3 hM3 hR3 hlo3 => ⟨_, rfl, ?_⟩))
            refine ax_iload_n dX12_starves_55 rfl ?_
            refine ax_iload_n dX12_starves_56 rfl ?_
            refine ax_icmp_leT 64 dX12_starves_57 (by decide) (nI_le (by omega) (by omega)) ?_
            have hb4 : But h1 h3 psP := hbb.tr (hb3.wide (fun j z => by unfold asP at z; unfold psP; omega))
            refine ax_iload_n dX12_starves_64 rfl ?_
            exact ax_ireturn dX12_starves_65 rfl (hq h3 (hb0.tr (hb4.wide (fun j z => by unfold psP at z; unfold moP; omega))) ⟨si, pt, fa, co, nm, rd, _, _, gg, F, S3, O, A, e3, hB.bk hN hb4 hM3 hR3 hlo3⟩)
          · rw [if_neg hc] at hR'
            rw [b1_f (fun q => q (nI_lt (by omega) (by omega)))]
            refine ax_if_neF 51 dX12_starves_38 (by decide) rfl ?_
            refine ax_aload_n dX12_starves_41 rfl ?_
            refine ax_cV dX12_starves_42 mmX12_passes lkX12_346 miX12_passes msX12_passes (ax_recv_of e145 rfl) rfl rfl (Nat.le_of_ble_eq_true rfl) (Nat.le_of_ble_eq_true rfl) rfl rfl (k_tpass (d := d) (swo := none) hN.tr hFT.td hT0 (Or.inl rfl) rfl (fun r hr => by cases hr) hN hBi hb1' (by omega) hF hL hI2 e145 (fun h3 S3 bc3 bm3 hb3 e3 hI3 => ⟨_, rfl, ?_⟩))
            refine ax_iinc dX12_starves_45 rfl (ax_inc 1) ?_
            refine ax_goto 28 dX12_starves_48 (by decide) ?_
            rw [nI_add i 1]
            refine ih (i + 1) bc3 bm3 S3 h3 _ (by omega) (hbb.tr hb3) e3 hI3 (hBi.year hN hN.tr hb0') ?_
            rw [hR']
            by_cases hin : i = n
            · rw [hin, Nat.sub_self, if_neg (by omega)]
              rfl
            · rw [if_pos (by omega), show n - i = (n - (i + 1)) + 1 by omega]
              show on (if 1000 ≤ yS N τ 0 (trN N) (nT N) none 1 r then some (i + 1) else wb N (trN N) (nT N) r (n - (i + 1)) (i + 1 + 1) (yS N τ 0 (trN N) (nT N) none)) = _
              split <;> rfl
      refine ax_if_neT 22 dX12_starves_17 (by decide) (by decide) ?_
      refine ax_aload_n dX12_starves_22 rfl ?_
      refine ax_cV dX12_starves_23 mmX12_aside lkX12_349 miX12_aside msX12_aside (ax_recv_of e145 rfl) rfl rfl (Nat.le_of_ble_eq_true rfl) (Nat.le_of_ble_eq_true rfl) rfl rfl (k_aside (d := d + 10) hN hM hR hS hSc e145 (fun h2 S2 hb2 e2 hI2 hlo2 => ⟨_, rfl, ?_⟩))
      refine ax_iconst dX12_starves_26 (v := nI 0) (by decide) ?_
      refine ax_istore_n dX12_starves_27 (Nat.le_of_ble_eq_true rfl) ?_
      refine loop (n + 1) 0 bc bm S2 h2 σ (by omega) (hb2.wide (fun j z => by unfold asP at z; unfold psP; omega)) e2 hI2 hB0 ?_
      rw [if_pos (show 0 ≤ n by omega), Nat.sub_zero]
      exact hV.symm
/-- does the road hold with so many parts more on purpose -/
theorem k_holds {r s p n b y : Nat} {si pt fa co nm rd bc bm : Int32} {gg : Int64} {F S O A : Nat → Int32} (hr : r < nR N) (hs5 : s < nS N) (hp : p < 100) (hp9 : σ 3 (5 * r + s) ≤ 99) (hn50 : n ≤ 50) (hN : nOK N) (hB0 : Bd N σ b y) (hb0' : 5300 ≤ b) (hb1' : b < 100000) (hy : y + 50 ≤ 28000) (hB : MoB h F S O A N σ μ) (e145 : h.2.2 145 = some (eM th ta si pt fa co nm rd 0 0 (-1) (-1) bc bm gg))
    (hq : ∀ h' S' bc' bm', But h h' psP → h'.2.2 145 = some (eM th ta si pt fa co nm rd 0 0 (-1) (-1) bc' bm' gg) → MoB h' F S' O A N σ μ → Q (.inl (some (.int (if puB N σ r s n p then 1 else 0)))) h') : X G (d + 12) mX12_holds 0 (ax_in 7 [.ref 145, .int (nI r), .int (nI s), .int (nI p), .int (nI n)]) [] h Q := by
  obtain ⟨hF, hFT, hL, hM, hR, hSt, hMk⟩ := id hB
  obtain ⟨f0, f1, f2, f3, fs, fr⟩ := id hF
  obtain ⟨hS, hSc, -, -⟩ := id hSt
  have hS5 := hN.1
  have hR10 := hN.2.2.1
  have hT0 : F 3 + 0 = nI (nT N) := by rw [f3]; exact Int32.add_zero _
  have fin : ∀ (dz : Int32) (h2 : ax_H) (S2 : Nat → Int32) (τ : Sd) (bc bm : Int32) (o6 : Option Value), (dz = if puB N σ r s n p then 1 else 0) → But h h2 psP → h2.2.2 145 = some (eM th ta si pt fa co nm rd 1 0 (-1) (-1) bc bm gg) → TrI h2 S S2 F O A N τ → X G (d + 12) mX12_holds 64 [some (.ref 145), some (.int (nI r)), some (.int (nI s)), some (.int (nI p)), some (.int (nI n)), some (.int dz), o6] [] h2 Q := by
    intro dz h2 S2 τ bc bm o6 hdz hbb e145 hI2
    refine ax_aload_n dX12_holds_64 rfl ?_
    refine ax_cV dX12_holds_65 mmX12_back lkX12_352 miX12_back msX12_back (ax_recv_of e145 rfl) rfl rfl (Nat.le_of_ble_eq_true rfl) (Nat.le_of_ble_eq_true rfl) rfl rfl (k_back (d := d + 10) hI2 e145 (fun h3 S3 hb3 e3 hM3 hR3 hlo3 => ⟨_, rfl, ?_⟩))
    have hb4 : But h h3 psP := hbb.tr (hb3.wide (fun j z => by unfold asP at z; unfold psP; omega))
    have hq3 := hq h3 S3 _ _ hb4 e3 (hB.bk hN hb4 hM3 hR3 hlo3)
    rw [hdz]
    refine ax_iload dX12_holds_68 rfl ?_
    refine ax_zreturn dX12_holds_70 rfl ?_ hq3
    split
    · exact Or.inr rfl
    · exact Or.inl rfl
  have loop : ∀ (m i : Nat) (bc bm : Int32) (S2 : Nat → Int32) (h2 : ax_H) (τ : Sd), i + m = n → But h h2 psP → h2.2.2 145 = some (eM th ta si pt fa co nm rd 1 0 (-1) (-1) bc bm gg) → TrI h2 S S2 F O A N τ → Bd N τ b (y + i) → puB N σ r s n p = (wb N (trN N) (nT N) r (n - i) (i + 1) τ).isNone → X G (d + 12) mX12_holds 27 [some (.ref 145), some (.int (nI r)), some (.int (nI s)), some (.int (nI p)), some (.int (nI n)), some (.int (nI 1)), some (.int (nI i))] [] h2 Q := by
    intro m
    induction m with
    | zero =>
      intro i bc bm S2 h2 τ hi hbb e145 hI2 hBi hR'
      obtain rfl : i = n := by omega
      rw [Nat.sub_self] at hR'
      refine ax_iload dX12_holds_27 rfl ?_
      refine ax_iload dX12_holds_29 rfl ?_
      refine ax_icmp_geT 64 dX12_holds_31 (by decide) (Int32.le_refl _) ?_
      exact fin _ h2 S2 τ bc bm _ (by rw [hR']; rfl) hbb e145 hI2
    | succ m ih =>
      intro i bc bm S2 h2 τ hi hbb e145 hI2 hBi hR'
      rw [show n - i = (n - (i + 1)) + 1 by omega] at hR'
      have hR2 : puB N σ r s n p = (if 1000 ≤ yS N τ 0 (trN N) (nT N) none 1 r then some (i + 1) else wb N (trN N) (nT N) r (n - (i + 1)) (i + 1 + 1) (yS N τ 0 (trN N) (nT N) none)).isNone := hR'
      have hBj := hBi.year (kp := 0) (sw := none) hN hN.tr hb0'
      have hh := hBj.1 r (by omega)
      refine ax_iload dX12_holds_27 rfl ?_
      refine ax_iload dX12_holds_29 rfl ?_
      refine ax_icmp_geF 64 dX12_holds_31 (by decide) (nI_ge (by omega) (by omega)) ?_
      refine ax_iload dX12_holds_34 rfl ?_
      refine ax_if_eqF 64 dX12_holds_36 (by decide) (by decide) ?_
      refine ax_aload_n dX12_holds_39 rfl ?_
      refine ax_cV dX12_holds_40 mmX12_passes lkX12_346 miX12_passes msX12_passes (ax_recv_of e145 rfl) rfl rfl (Nat.le_of_ble_eq_true rfl) (Nat.le_of_ble_eq_true rfl) rfl rfl (k_tpass (d := d) (swo := none) hN.tr hFT.td hT0 (Or.inl rfl) rfl (fun r hr => by cases hr) hN hBi hb1' (by omega) hF hL hI2 e145 (fun h3 S3 bc3 bm3 hb3 e3 hI3 => ⟨_, rfl, ?_⟩))
      have e145 := e3
      refine ax_aload_n dX12_holds_43 rfl ?_
      refine ax_iload_n dX12_holds_44 rfl ?_
      refine ax_cV dX12_holds_45 mmX12_isWorn lkX12_311 miX12_isWorn msX12_isWorn (ax_recv_of e145 rfl) rfl rfl (Nat.le_of_ble_eq_true rfl) (Nat.le_of_ble_eq_true rfl) rfl rfl (k_isWorn (by omega) e145 hI3.1.2.2.2.1 ⟨_, rfl, ?_⟩)
      rw [hI3.2.2.1.2.1 r hr]
      by_cases hc : 1000 ≤ yS N τ 0 (trN N) (nT N) none 1 r
      · rw [if_pos hc] at hR2
        rw [b1_t (nI_nlt hc (by omega))]
        refine ax_if_neT 55 dX12_holds_48 (by decide) (by decide) ?_
        refine ax_iconst dX12_holds_55 (v := nI 0) (by decide) ?_
        refine ax_istore dX12_holds_56 (Nat.le_of_ble_eq_true rfl) ?_
        refine ax_iinc dX12_holds_58 rfl (ax_inc 1) ?_
        refine ax_goto 27 dX12_holds_61 (by decide) ?_
        have out : ∀ (x6 : Int32), X G (d + 12) mX12_holds 27 [some (.ref 145), some (.int (nI r)), some (.int (nI s)), some (.int (nI p)), some (.int (nI n)), some (.int (nI 0)), some (.int x6)] [] h3 Q := by
          intro x6
          by_cases hx6 : nI n ≤ x6
          · refine ax_iload dX12_holds_27 rfl ?_
            refine ax_iload dX12_holds_29 rfl ?_
            refine ax_icmp_geT 64 dX12_holds_31 (by decide) hx6 ?_
            exact fin _ h3 S3 _ bc3 bm3 _ (by rw [hR2]; rfl) (hbb.tr hb3) e3 hI3
          · refine ax_iload dX12_holds_27 rfl ?_
            refine ax_iload dX12_holds_29 rfl ?_
            refine ax_icmp_geF 64 dX12_holds_31 (by decide) hx6 ?_
            refine ax_iload dX12_holds_34 rfl ?_
            refine ax_if_eqT 64 dX12_holds_36 (by decide) rfl ?_
            exact fin _ h3 S3 _ bc3 bm3 _ (by rw [hR2]; rfl) (hbb.tr hb3) e3 hI3
        exact out _
      · rw [if_neg hc] at hR2
        rw [b1_f (fun q => q (nI_lt (by omega) (by omega)))]
        refine ax_if_neF 55 dX12_holds_48 (by decide) rfl ?_
        refine ax_iconst dX12_holds_51 (v := nI 1) (by decide) ?_
        refine ax_goto 56 dX12_holds_52 (by decide) ?_
        refine ax_istore dX12_holds_56 (Nat.le_of_ble_eq_true rfl) ?_
        refine ax_iinc dX12_holds_58 rfl (ax_inc 1) ?_
        refine ax_goto 27 dX12_holds_61 (by decide) ?_
        rw [nI_add i 1]
        exact ih (i + 1) bc3 bm3 S3 h3 _ (by omega) (hbb.tr hb3) e3 hI3 hBj hR2
  refine ax_aload_n dX12_holds_0 rfl ?_
  refine ax_cV dX12_holds_1 mmX12_aside lkX12_349 miX12_aside msX12_aside (ax_recv_of e145 rfl) rfl rfl (Nat.le_of_ble_eq_true rfl) (Nat.le_of_ble_eq_true rfl) rfl rfl (k_aside (d := d + 10) hN hM hR hS hSc e145 (fun h2 S2 hb2 e2 hI2 hlo2 => ⟨_, rfl, ?_⟩))
  obtain ⟨hM2, hR2, hS2, hSc2, t1', t2'⟩ := id hI2
  have e145 := e2
  have e159 := hM2.2.2.2.1
  refine ax_aload_n dX12_holds_4 rfl ?_
  refine ax_getf dX12_holds_5 flX12_99 e145 rfl ?_
  refine ax_bipush dX12_holds_8 (v := nI 61) (by decide) ?_
  refine ax_iconst dX12_holds_10 (v := nI 5) (by decide) ?_
  refine ax_iload_n dX12_holds_11 rfl ?_
  refine ax_imul dX12_holds_12 ?_
  refine ax_iadd dX12_holds_13 ?_
  refine ax_iload_n dX12_holds_14 rfl ?_
  refine ax_iadd dX12_holds_15 ?_
  rw [pk_mul 5 r, nI_add 61 (5 * r), nI_add (61 + 5 * r) s]
  refine ax_dup2 dX12_holds_16 rfl rfl ?_
  rw [Nat.add_assoc 61 (5 * r) s]
  refine ax_iald dX12_holds_17 e159 (ax_ix_nI (j := 61 + (5 * r + s)) (by omega) (by decide)) ?_
  rw [hS2.2.2.2 (5 * r + s) (by omega)]
  refine ax_iload_n dX12_holds_18 rfl ?_
  refine ax_iadd dX12_holds_19 ?_
  rw [nI_add (σ 3 (5 * r + s)) p]
  refine ax_iast dX12_holds_20 e159 (ax_ix_nI (j := 61 + (5 * r + s)) (by omega) (by decide)) ?_
  refine ax_iconst dX12_holds_21 (v := nI 1) (by decide) ?_
  refine ax_istore dX12_holds_22 (Nat.le_of_ble_eq_true rfl) ?_
  refine ax_iconst dX12_holds_24 (v := nI 0) (by decide) ?_
  refine ax_istore dX12_holds_25 (Nat.le_of_ble_eq_true rfl) ?_
  have lo : ∀ j, j ≠ 61 + (5 * r + s) → upd S2 (61 + (5 * r + s)) (nI (σ 3 (5 * r + s) + p)) j = S2 j := fun j hj => pk_un hj
  refine loop n 0 bc bm _ _ (sUp σ 3 (5 * r + s) (σ 3 (5 * r + s) + p)) (by omega) ((hb2.wide (fun j z => by unfold asP at z; unfold psP; omega)).wr (by unfold psP; omega)) ((ax_wr_ne (by decide)).trans e2) ⟨hM2.st (fun j z1 z2 => ax_wr_ne (by omega)) ax_wr_eq, hR2.kept (fun j z1 z2 => ax_wr_ne (by omega)), ⟨(lo 0 (by omega)).trans hS2.1, fun q hq => (lo _ (by omega)).trans (hS2.2.1 q hq), fun c hc => (lo _ (by omega)).trans (hS2.2.2.1 c hc), fun c hc => ?_⟩, hSc2.kept hN.1 (fun j z1 z2 => lo j (by omega)), fun j z1 z2 => (lo j (by omega)).trans (t1' j z1 z2), fun j hj => (lo _ (by omega)).trans (t2' j hj)⟩ (hB0.up3 (by omega)) (by rw [Nat.sub_zero]; rfl)
  show upd S2 (61 + (5 * r + s)) (nI (σ 3 (5 * r + s) + p)) (61 + c) = nI (upN (σ 3) (5 * r + s) (σ 3 (5 * r + s) + p) c)
  rw [upN_at]
  by_cases hcc : c = 5 * r + s
  · rw [if_pos hcc, hcc, pk_us]
  · rw [if_neg hcc, lo _ (by omega)]
    exact hS2.2.2.2 c hc
end MB5
