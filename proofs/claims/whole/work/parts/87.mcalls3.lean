section MB4
variable {G : ax_G} {d : Nat} {h : ax_H} {Q : ax_O → ax_H → Prop} {N : Nt} {σ : Sd} {μ : Nat → Option Sd} {th ta : Int32}
theorem MoB.bk {h' : ax_H} {F S S' O A : Nat → Int32} (hN : nOK N) (a : MoB h F S O A N σ μ) (hb : But h h' psP) (hM : MC h' F S' O A) (hR : MR h') (hk : ∀ j, j < 10700 → S' j = S j) : MoB h' F S' O A N σ μ := by
  obtain ⟨a1, a2, a3, -, -, a6, a7⟩ := a
  exact ⟨a1, a2, a3, hM, hR, a6.kept hN (fun j hj => hk j (by omega)), a7.st hN (hb.2.2 160 (by unfold psP; omega)) (fun j _ z => hk j z)⟩
theorem k_mark {x b : Int32} (hN : nOK N) (hI : MoI h th ta N σ μ)
    (hq0 : (¬ ∃ m, m < 4 ∧ x = nI m ∧ (b = 0 ∨ (μ m).isSome)) → ∀ h', But h h' moP → MoI h' 0 ta N σ μ → Q (.inl (some (.int 0))) h')
    (hq1 : ∀ m, m < 4 → x = nI m → b = 0 → ∀ h', But h h' moP → MoI h' 0 ta N σ (upO μ m (some σ)) → Q (.inl (some (.int 1))) h')
    (hq2 : ∀ m τ, m < 4 → x = nI m → ¬ b = 0 → μ m = some τ → ∀ h', But h h' moP → MoI h' 0 ta N τ μ → Q (.inl (some (.int 1))) h') : X G (d + 1) mX12_mark 0 (ax_in 3 [.ref 145, .int x, .int b]) [] h Q := by
  obtain ⟨si, pt, fa, co, nm, rd, bc, bm, gg, F, S, O, A, e145, hB⟩ := hI
  refine ax_aload_n dX12_mark_0 rfl ?_
  refine ax_iconst dX12_mark_1 (v := nI 0) (by decide) ?_
  refine ax_putf dX12_mark_2 flX12_1 e145 (Nat.le_of_ble_eq_true rfl) (fun _ => ⟨rfl, rfl⟩) ?_
  refine ax_hp (h1 := ax_wr h 145 (eM 0 ta si pt fa co nm rd 0 0 (-1) (-1) bc bm gg)) rfl ?_
  have hb0 : But h (ax_wr h 145 (eM 0 ta si pt fa co nm rd 0 0 (-1) (-1) bc bm gg)) moP := But.rf.wr (Or.inl rfl)
  have hB := hB.kept (h' := ax_wr h 145 (eM 0 ta si pt fa co nm rd 0 0 (-1) (-1) bc bm gg)) (fun j z1 z2 => ax_wr_ne (by omega))
  have e145 : (ax_wr h 145 (eM 0 ta si pt fa co nm rd 0 0 (-1) (-1) bc bm gg)).2.2 145 = some (eM 0 ta si pt fa co nm rd 0 0 (-1) (-1) bc bm gg) := ax_wr_eq
  generalize ax_wr h 145 (eM 0 ta si pt fa co nm rd 0 0 (-1) (-1) bc bm gg) = h1 at hb0 hB e145 ⊢
  have hI1 : MoI h1 0 ta N σ μ := ⟨si, pt, fa, co, nm, rd, bc, bm, gg, F, S, O, A, e145, hB⟩
  obtain ⟨hF, hFT, hL, hM, hR, hSt, hMk⟩ := id hB
  obtain ⟨e151, e152, e153, e159, a157, a158⟩ := id hM
  obtain ⟨hS, hSc, s7, s8⟩ := id hSt
  obtain ⟨f0, f1, f2, f3, fs, fr⟩ := id hF
  have hS5 := hN.1
  have hP7 := hN.2.1
  have hR10 := hN.2.2.1
  have hT6 := hN.2.2.2.1
  obtain ⟨Z, e160, hZ⟩ := id hMk
  refine ax_iload_n dX12_mark_5 rfl ?_
  refine ax_iconst dX12_mark_6 (v := nI 0) (by decide) ?_
  refine ax_iconst dX12_mark_7 (v := nI 3) (by decide) ?_
  refine ax_cS dX12_mark_8 mmX12_within lkX12_333 mtX12_within rfl rfl (Nat.le_of_ble_eq_true rfl) (Nat.le_of_ble_eq_true rfl) rfl rfl (k_within ⟨_, rfl, ?_⟩)
  rcases wi_cases (b := 3) (by decide) x with ⟨hs, hb⟩ | ⟨m, hm, rfl, hs, hb⟩
  · rw [hb]
    refine ax_if_eqT 27 dX12_mark_11 (by decide) rfl ?_
    have hno : ¬ ∃ m, m < 4 ∧ x = nI m ∧ (b = 0 ∨ (μ m).isSome) := fun ⟨m, hm, q, _⟩ => by
      rw [q] at hs
      unfold ixN at hs
      rw [if_pos ⟨nI_pos (by omega), nI_ge (by omega) (by decide)⟩] at hs
      cases hs
    refine ax_iconst dX12_mark_27 (v := nI 0) (by decide) ?_
    exact ax_zreturn dX12_mark_28 rfl ((Or.inl rfl)) (hq0 hno h1 hb0 hI1)
  · rw [hb]
    by_cases hb0' : b = 0
    · refine ax_if_eqF 27 dX12_mark_11 (by decide) (by decide) ?_
      refine ax_iload_n dX12_mark_14 rfl ?_
      refine ax_if_eqT 29 dX12_mark_15 (by decide) hb0' ?_
      refine ax_aload_n dX12_mark_29 rfl ?_
      refine ax_getf dX12_mark_30 flX12_102 e145 rfl ?_
      refine ax_iload_n dX12_mark_33 rfl ?_
      refine ax_iconst dX12_mark_34 (v := nI 1) (by decide) ?_
      refine ax_zast dX12_mark_35 e160 (ax_ix_nI (j := m) (by omega) (by decide)) rfl ?_
      refine ax_aload_n dX12_mark_36 rfl ?_
      refine ax_iload_n dX12_mark_37 rfl ?_
      refine ax_if_eqT 47 dX12_mark_38 (by decide) hb0' ?_
      refine ax_iconst dX12_mark_47 (v := nI 0) (by decide) ?_
      refine ax_iload_n dX12_mark_48 rfl ?_
      refine ax_if_eqT 56 dX12_mark_49 (by decide) hb0' ?_
      refine ax_iconst dX12_mark_56 (v := nI 1) (by decide) ?_
      refine ax_iload_n dX12_mark_57 rfl ?_
      refine ax_iadd dX12_mark_58 ?_
      rw [nI_add 1 m]
      refine ax_sipush dX12_mark_59 (v := nI 2140) (by decide) ?_
      refine ax_cV dX12_mark_62 mmX12_copies lkX12_262 miX12_copies msX12_copies (ax_recv_of ((ax_wr_ne (by decide)).trans (e145)) rfl) rfl rfl (Nat.le_of_ble_eq_true rfl) (Nat.le_of_ble_eq_true rfl) rfl rfl (k_copies (a := 0) (b := 1 + m) (n := 2140) (by omega) (by omega) (by omega) (by omega) ((ax_wr_ne (by decide)).trans (e145)) ((ax_wr_ne (by decide)).trans (e159)) ⟨_, rfl, ?_⟩)
      have hfin : MoI (ax_wr (ax_wr h1 160 (eZ 4 (upd Z m (nI 1)))) 159 (eI 12840 (cpB S 0 (1 + m) 2140))) 0 ta N σ (upO μ m (some σ)) := by
        refine ⟨si, pt, fa, co, nm, rd, bc, bm, gg, F, _, O, A, (ax_wr_ne (by decide)).trans ((ax_wr_ne (by decide)).trans e145), hF, hFT, hL, hM.st (fun j z1 z2 => (ax_wr_ne (by omega)).trans (ax_wr_ne (by omega))) ax_wr_eq, hR.kept (fun j z1 z2 => (ax_wr_ne (by omega)).trans (ax_wr_ne (by omega))), hSt.kept hN (fun j hj => if_neg (by omega)), ⟨_, (ax_wr_ne (by decide)).trans ax_wr_eq, fun m' hm' => ?_⟩⟩
        by_cases hmm : m' = m
        · subst hmm
          refine ⟨by rw [pk_us, upO_eq]; rfl, fun τ hτ => ?_⟩
          rw [upO_eq] at hτ
          cases hτ
          refine hSt.kept hN (fun j hj => ?_)
          show cpB S 0 (1 + m') 2140 (2140 * (1 + m') + j) = S j
          unfold cpB
          rw [if_pos ⟨by omega, by omega⟩, show 2140 * 0 + (2140 * (1 + m') + j - 2140 * (1 + m')) = j by omega]
        · refine ⟨by rw [pk_un hmm, upO_ne hmm]; exact (hZ m' hm').1, fun τ hτ => ?_⟩
          rw [upO_ne hmm] at hτ
          refine ((hZ m' hm').2 τ hτ).kept hN (fun j hj => ?_)
          show cpB S 0 (1 + m) 2140 (2140 * (1 + m') + j) = S (2140 * (1 + m') + j)
          exact if_neg (by omega)
      refine ax_iconst dX12_mark_65 (v := nI 1) (by decide) ?_
      exact ax_zreturn dX12_mark_66 rfl ((Or.inr rfl)) (hq1 m (by omega) rfl hb0' _ ((hb0.wr (by unfold moP; omega)).wr (by unfold moP; omega)) hfin)
    · refine ax_if_eqF 27 dX12_mark_11 (by decide) (by decide) ?_
      refine ax_iload_n dX12_mark_14 rfl ?_
      refine ax_if_eqF 29 dX12_mark_15 (by decide) hb0' ?_
      refine ax_aload_n dX12_mark_18 rfl ?_
      refine ax_getf dX12_mark_19 flX12_102 e145 rfl ?_
      refine ax_iload_n dX12_mark_22 rfl ?_
      refine ax_zald dX12_mark_23 e160 (ax_ix_nI (j := m) (by omega) (by decide)) ?_
      rw [(hZ m (by omega)).1]
      by_cases hsm : (μ m).isSome = true
      · obtain ⟨τ, hτ⟩ := Option.isSome_iff_exists.mp hsm
        rw [if_pos hsm]
        refine ax_if_neT 29 dX12_mark_24 (by decide) (by decide) ?_
        refine ax_aload_n dX12_mark_29 rfl ?_
        refine ax_getf dX12_mark_30 flX12_102 e145 rfl ?_
        refine ax_iload_n dX12_mark_33 rfl ?_
        refine ax_iconst dX12_mark_34 (v := nI 1) (by decide) ?_
        refine ax_zast dX12_mark_35 e160 (ax_ix_nI (j := m) (by omega) (by decide)) rfl ?_
        refine ax_aload_n dX12_mark_36 rfl ?_
        refine ax_iload_n dX12_mark_37 rfl ?_
        refine ax_if_eqF 47 dX12_mark_38 (by decide) hb0' ?_
        refine ax_iconst dX12_mark_41 (v := nI 1) (by decide) ?_
        refine ax_iload_n dX12_mark_42 rfl ?_
        refine ax_iadd dX12_mark_43 ?_
        refine ax_goto 48 dX12_mark_44 (by decide) ?_
        rw [nI_add 1 m]
        refine ax_iload_n dX12_mark_48 rfl ?_
        refine ax_if_eqF 56 dX12_mark_49 (by decide) hb0' ?_
        refine ax_iconst dX12_mark_52 (v := nI 0) (by decide) ?_
        refine ax_goto 59 dX12_mark_53 (by decide) ?_
        refine ax_sipush dX12_mark_59 (v := nI 2140) (by decide) ?_
        refine ax_cV dX12_mark_62 mmX12_copies lkX12_262 miX12_copies msX12_copies (ax_recv_of ((ax_wr_ne (by decide)).trans (e145)) rfl) rfl rfl (Nat.le_of_ble_eq_true rfl) (Nat.le_of_ble_eq_true rfl) rfl rfl (k_copies (a := 1 + m) (b := 0) (n := 2140) (by omega) (by omega) (by omega) (by omega) ((ax_wr_ne (by decide)).trans (e145)) ((ax_wr_ne (by decide)).trans (e159)) ⟨_, rfl, ?_⟩)
        have hZu : upd Z m (nI 1) = Z := funext fun j => by
          by_cases hj : j = m
          · rw [hj, pk_us, (hZ m (by omega)).1, if_pos hsm]; rfl
          · rw [pk_un hj]
        have hfin : MoI (ax_wr (ax_wr h1 160 (eZ 4 (upd Z m (nI 1)))) 159 (eI 12840 (cpB S (1 + m) 0 2140))) 0 ta N τ μ := by
          refine ⟨si, pt, fa, co, nm, rd, bc, bm, gg, F, _, O, A, (ax_wr_ne (by decide)).trans ((ax_wr_ne (by decide)).trans e145), hF, hFT, hL, hM.st (fun j z1 z2 => (ax_wr_ne (by omega)).trans (ax_wr_ne (by omega))) ax_wr_eq, hR.kept (fun j z1 z2 => (ax_wr_ne (by omega)).trans (ax_wr_ne (by omega))), ((hZ m (by omega)).2 τ hτ).kept hN (fun j hj => ?_), ⟨_, (ax_wr_ne (by decide)).trans ax_wr_eq, fun m' hm' => ⟨?_, fun τ' hτ' => ((hZ m' hm').2 τ' hτ').kept hN (fun j hj => ?_)⟩⟩⟩
          · show cpB S (1 + m) 0 2140 j = S (2140 * (1 + m) + j)
            unfold cpB
            rw [if_pos ⟨by omega, by omega⟩, show j - 2140 * 0 = j by omega]
          · rw [hZu]; exact (hZ m' hm').1
          · show cpB S (1 + m) 0 2140 (2140 * (1 + m') + j) = S (2140 * (1 + m') + j)
            exact if_neg (by omega)
        refine ax_iconst dX12_mark_65 (v := nI 1) (by decide) ?_
        exact ax_zreturn dX12_mark_66 rfl ((Or.inr rfl)) (hq2 m τ (by omega) rfl hb0' hτ _ ((hb0.wr (by unfold moP; omega)).wr (by unfold moP; omega)) hfin)
      · rw [if_neg hsm]
        refine ax_if_neF 29 dX12_mark_24 (by decide) rfl ?_
        have hno : ¬ ∃ m', m' < 4 ∧ nI m = nI m' ∧ (b = 0 ∨ (μ m').isSome) := fun ⟨m', hm', q, hz⟩ => by
          have := nI_inj (by omega) (by omega) q
          subst this
          rcases hz with z | z
          · exact hb0' z
          · exact hsm z
        refine ax_iconst dX12_mark_27 (v := nI 0) (by decide) ?_
        exact ax_zreturn dX12_mark_28 rfl ((Or.inl rfl)) (hq0 hno h1 hb0 hI1)
theorem k_swept {x w : Int32} {b y : Nat} (hN : nOK N) (hB0 : Bd N σ b y) (hb0' : 5300 ≤ b) (hb1' : b < 100000) (hy : y + 50 ≤ 28000) (hI : MoI h th ta N σ μ) (hq : ∀ v h', qSwept N σ x w = some v → But h h' moP → MoI h' 0 ta N σ μ → Q (.inl (some (.int v))) h') (hx : qSwept N σ x w = none → ∀ h', But h h' moP → MoI h' 1 ta N σ μ → Q (.inl (some (.int 0))) h') : X G (d + 13) mX12_swept 0 (ax_in 4 [.ref 145, .int x, .int w]) [] h Q := by
  obtain ⟨si, pt, fa, co, nm, rd, bc, bm, gg, F, S, O, A, e145, hB⟩ := hI
  obtain ⟨hF, hFT, hL, hM, hR, hSt, hMk⟩ := id hB
  obtain ⟨e151, e152, e153, e159, a157, a158⟩ := id hM
  obtain ⟨f0, f1, f2, f3, fs, fr⟩ := id hF
  have hR10 := hN.2.2.1
  unfold qSwept at hq hx
  have bad : (match ixN (nR N) x, yrs w with | some r, some n => some (nI (hA N σ (trN N) (nT N) n (some r)) - nI (hA N σ (trN N) (nT N) n none)) | _, _ => none) = none → X G (d + 13) mX12_swept 20 [some (.ref 145), some (.int x), some (.int w), none] [.ref 145] h Q := by
    intro hz
    refine ax_iconst dX12_swept_20 (v := nI 1) (by decide) ?_
    refine ax_putf dX12_swept_21 flX12_1 e145 (Nat.le_of_ble_eq_true rfl) (fun _ => ⟨rfl, rfl⟩) ?_
    refine ax_aload_n dX12_swept_24 rfl ?_
    refine ax_getf dX12_swept_25 flX12_1 ax_wr_eq rfl ?_
    refine ax_if_leF 33 dX12_swept_28 (by decide) (by decide) ?_
    refine ax_iconst dX12_swept_31 (v := nI 0) (by decide) ?_
    exact ax_ireturn dX12_swept_32 rfl (hx hz _ (But.rf.wr (Or.inl rfl)) ⟨si, pt, fa, co, nm, rd, bc, bm, gg, F, S, O, A, ax_wr_eq, hB.kept (fun j z1 z2 => ax_wr_ne (by omega))⟩)
  refine ax_aload_n dX12_swept_0 rfl ?_
  refine ax_aload_n dX12_swept_1 rfl ?_
  refine ax_iload_n dX12_swept_2 rfl ?_
  refine ax_cV dX12_swept_3 mmX12_isRoad lkX12_337 miX12_isRoad msX12_isRoad (ax_recv_of e145 rfl) rfl rfl (Nat.le_of_ble_eq_true rfl) (Nat.le_of_ble_eq_true rfl) rfl rfl (k_isRoad e145 e151 ⟨_, rfl, ?_⟩)
  rw [f2]
  rcases ix_cases (n := nR N) (by omega) x with ⟨hs, hb, -⟩ | ⟨r, hr, rfl, hs, hb⟩
  · rw [hb]
    refine ax_if_eqT 20 dX12_swept_6 (by decide) rfl ?_
    exact bad (by rw [hs])
  · rw [hb]
    refine ax_if_eqF 20 dX12_swept_6 (by decide) (by decide) ?_
    refine ax_iload_n dX12_swept_9 rfl ?_
    refine ax_cS dX12_swept_10 mmX12_areYears lkX12_343 mtX12_areYears rfl rfl (Nat.le_of_ble_eq_true rfl) (Nat.le_of_ble_eq_true rfl) rfl rfl (k_areYears ⟨_, rfl, ?_⟩)
    rcases yrs_cases w with ⟨hw, hb⟩ | ⟨n, hn1, hn50, rfl, hw, hb⟩
    · rw [hb]
      refine ax_if_eqT 20 dX12_swept_13 (by decide) rfl ?_
      exact bad (by rw [hs, hw])
    · rw [hb]
      rw [hs, hw] at hq
      dsimp only at hq
      refine ax_if_eqF 20 dX12_swept_13 (by decide) (by decide) ?_
      refine ax_iconst dX12_swept_16 (v := nI 0) (by decide) ?_
      refine ax_goto 21 dX12_swept_17 (by decide) ?_
      refine ax_putf dX12_swept_21 flX12_1 e145 (Nat.le_of_ble_eq_true rfl) (fun _ => ⟨rfl, rfl⟩) ?_
      refine ax_aload_n dX12_swept_24 rfl ?_
      refine ax_getf dX12_swept_25 flX12_1 ax_wr_eq rfl ?_
      refine ax_if_leT 33 dX12_swept_28 (by decide) (by decide) ?_
      refine ax_hp (h1 := ax_wr h 145 (eM 0 ta si pt fa co nm rd 0 0 (-1) (-1) bc bm gg)) rfl ?_
      have hb0 : But h (ax_wr h 145 (eM 0 ta si pt fa co nm rd 0 0 (-1) (-1) bc bm gg)) moP := But.rf.wr (Or.inl rfl)
      have hB := hB.kept (h' := ax_wr h 145 (eM 0 ta si pt fa co nm rd 0 0 (-1) (-1) bc bm gg)) (fun j z1 z2 => ax_wr_ne (by omega))
      have e145 : (ax_wr h 145 (eM 0 ta si pt fa co nm rd 0 0 (-1) (-1) bc bm gg)).2.2 145 = some (eM 0 ta si pt fa co nm rd 0 0 (-1) (-1) bc bm gg) := ax_wr_eq
      generalize ax_wr h 145 (eM 0 ta si pt fa co nm rd 0 0 (-1) (-1) bc bm gg) = h1 at hb0 hB e145 ⊢
      obtain ⟨-, -, -, hM, hR, hSt, hMk⟩ := id hB
      have hT0 : F 3 + 0 = nI (nT N) := by rw [f3]; exact Int32.add_zero _
      refine ax_aload_n dX12_swept_33 rfl ?_
      refine ax_iload_n dX12_swept_34 rfl ?_
      refine ax_cV dX12_swept_35 mmX12_holesBehind lkX12_362 miX12_holesBehind msX12_holesBehind (ax_recv_of e145 rfl) rfl rfl (Nat.le_of_ble_eq_true rfl) (Nat.le_of_ble_eq_true rfl) rfl rfl (k_holesBehind (d := d) (swo := none) hN.tr hFT.td hT0 (Or.inl rfl) rfl (fun r hr => by cases hr) hN hB0 hb0' hb1' (by omega) hF hL hM hR hSt.1 hSt.2.1 e145 (fun h2 S2 bc2 bm2 hb2 e145 hM2 hR2 hlo2 => ⟨_, rfl, ?_⟩))
      have hB2 := hB.bk hN hb2 hM2 hR2 hlo2
      have hbb2 : But h h2 moP := hb0.tr (hb2.wide (fun j z => by unfold psP at z; unfold moP; omega))
      refine ax_istore_n dX12_swept_38 (Nat.le_of_ble_eq_true rfl) ?_
      refine ax_aload_n dX12_swept_39 rfl ?_
      refine ax_iload_n dX12_swept_40 rfl ?_
      refine ax_putf dX12_swept_41 flX12_109 e145 (Nat.le_of_ble_eq_true rfl) (fun _ => ⟨rfl, rfl⟩) ?_
      refine ax_hp (h1 := ax_wr h2 145 (eM 0 ta si pt fa co nm rd 0 0 (-1) (nI r) bc2 bm2 gg)) rfl ?_
      have hb3 : But h (ax_wr h2 145 (eM 0 ta si pt fa co nm rd 0 0 (-1) (nI r) bc2 bm2 gg)) moP := hbb2.wr (Or.inl rfl)
      have hB3 := hB2.kept (h' := ax_wr h2 145 (eM 0 ta si pt fa co nm rd 0 0 (-1) (nI r) bc2 bm2 gg)) (fun j z1 z2 => ax_wr_ne (by omega))
      have e145 : (ax_wr h2 145 (eM 0 ta si pt fa co nm rd 0 0 (-1) (nI r) bc2 bm2 gg)).2.2 145 = some (eM 0 ta si pt fa co nm rd 0 0 (-1) (nI r) bc2 bm2 gg) := ax_wr_eq
      generalize ax_wr h2 145 (eM 0 ta si pt fa co nm rd 0 0 (-1) (nI r) bc2 bm2 gg) = h3 at hb3 hB3 e145 ⊢
      obtain ⟨-, -, -, hM3, hR3, hSt3, hMk3⟩ := id hB3
      refine ax_aload_n dX12_swept_44 rfl ?_
      refine ax_iload_n dX12_swept_45 rfl ?_
      refine ax_cV dX12_swept_46 mmX12_holesBehind lkX12_362 miX12_holesBehind msX12_holesBehind (ax_recv_of e145 rfl) rfl rfl (Nat.le_of_ble_eq_true rfl) (Nat.le_of_ble_eq_true rfl) rfl rfl (k_holesBehind (d := d) (swo := some r) hN.tr hFT.td hT0 (Or.inl rfl) rfl (fun r' hr' => by cases hr'; omega) hN hB0 hb0' hb1' (by omega) hF hL hM3 hR3 hSt3.1 hSt3.2.1 e145 (fun h4 S4 bc4 bm4 hb4 e4 hM4 hR4 hlo4 => ⟨_, rfl, ?_⟩))
      refine ax_iload_n dX12_swept_49 rfl ?_
      refine ax_isub dX12_swept_50 ?_
      exact ax_ireturn dX12_swept_51 rfl (hq _ h4 rfl (hb3.tr (hb4.wide (fun j z => by unfold psP at z; unfold moP; omega))) ⟨si, pt, fa, co, nm, rd, bc4, bm4, gg, F, S4, O, A, e4, hB3.bk hN hb4 hM4 hR4 hlo4⟩)
end MB4
