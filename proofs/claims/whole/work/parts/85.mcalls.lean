section MB2
variable {G : ax_G} {d : Nat} {h : ax_H} {Q : ax_O → ax_H → Prop} {N : Nt} {σ : Sd} {μ : Nat → Option Sd} {th ta : Int32}
theorem StF.kept {S S' : Nat → Int32} (hN : nOK N) (hk : ∀ j, j < 2140 → S' j = S j) (a : StF S N σ) : StF S' N σ := by
  obtain ⟨a1, a2, a3, a4⟩ := a
  have := hN.1
  have := hN.2.2.1
  exact ⟨a1.kept hN (fun j hj => hk j (by omega)), a2.kept hN.1 (fun j z1 z2 => hk j (by omega)), fun s hs => (hk _ (by omega)).trans (a3 s hs), fun z r s z1 z2 z3 z4 => (hk _ (by omega)).trans (a4 z r s z1 z2 z3 z4)⟩
theorem MkM.st {h' : ax_H} {S S' : Nat → Int32} (hN : nOK N) (a : MkM h S N μ) (hk : h'.2.2 160 = h.2.2 160) (hS : ∀ j, 2140 ≤ j → j < 10700 → S' j = S j) : MkM h' S' N μ := by
  obtain ⟨Z, e, q⟩ := a
  refine ⟨Z, hk.trans e, fun m hm => ⟨(q m hm).1, fun τ hτ => ((q m hm).2 τ hτ).kept hN (fun j hj => hS _ (by omega) (by omega))⟩⟩
theorem StF.year {S S' : Nat → Int32} {tr : Nat → Nat → Nat} {T : Nat} (hN : nOK N) (a : StF S N σ) (b1' : Sb S' N (yS N σ 40 tr T none)) (b2 : Sc S' (nS N) (yS N σ 40 tr T none 5) (yS N σ 40 tr T none 6) (yS N σ 40 tr T none 4)) (b3 : ∀ j, 128 ≤ j → j < 133 → S' j = S j) (b4 : lyJ S' S (σ 0 0) 0 (lfN σ (tf N σ tr T))) : StF S' N (yS N σ 40 tr T none) ∧ ∀ j, 2140 ≤ j → S' j = S j := by
  obtain ⟨a1, a2, a3, a4⟩ := a
  have := hN.1
  have := hN.2.2.1
  refine ⟨⟨b1', b2, fun s hs => (b3 _ (by omega) (by omega)).trans (a3 s hs), fun z r s z1 z2 z3 z4 => ?_⟩, fun j hj => b4.1 j (by omega) ?_⟩
  · have z1' : z < σ 0 0 + 1 := z1
    rw [yS_8 hN z3 z4]
    by_cases hz : z = σ 0 0
    · rw [if_pos ⟨hz, by omega⟩, hz, b4.2 rfl (by omega) (5 * r + s) (by omega)]
      rfl
    · rw [if_neg (fun q => hz q.1), b4.1 _ (by omega) (Or.inr (Or.inl (by omega)))]
      exact a4 z r s (by omega) z2 z3 z4
  · by_cases hc : σ 0 0 < 40
    · exact Or.inr (Or.inr (by omega))
    · exact Or.inl (fun q => hc q.2)
theorem k_lose {x w p : Int32} (hN : nOK N) (hI : MoI h th ta N σ μ) (hq0 : sLose N σ x w p = none → ∀ h', But h h' moP → MoI h' 0 ta N σ μ → Q (.inl (some (.int 0))) h') (hq1 : ∀ σ', sLose N σ x w p = some σ' → ∀ h', But h h' moP → MoI h' 0 ta N σ' μ → Q (.inl (some (.int 1))) h') : X G (d + 2) mX12_lose 0 (ax_in 4 [.ref 145, .int x, .int w, .int p]) [] h Q := by
  obtain ⟨si, pt, fa, co, nm, rd, bc, bm, gg, F, S, O, A, e145, hB⟩ := hI
  refine ax_aload_n dX12_lose_0 rfl ?_
  refine ax_iconst dX12_lose_1 (v := nI 0) (by decide) ?_
  refine ax_putf dX12_lose_2 flX12_1 e145 (Nat.le_of_ble_eq_true rfl) (fun _ => ⟨rfl, rfl⟩) ?_
  refine ax_hp (h1 := ax_wr h 145 (eM 0 ta si pt fa co nm rd 0 0 (-1) (-1) bc bm gg)) rfl ?_
  have hb0 : But h (ax_wr h 145 (eM 0 ta si pt fa co nm rd 0 0 (-1) (-1) bc bm gg)) moP := But.rf.wr (Or.inl rfl)
  have hB := hB.kept (h' := ax_wr h 145 (eM 0 ta si pt fa co nm rd 0 0 (-1) (-1) bc bm gg)) (fun j z1 z2 => ax_wr_ne (by omega))
  have e145 : (ax_wr h 145 (eM 0 ta si pt fa co nm rd 0 0 (-1) (-1) bc bm gg)).2.2 145 = some (eM 0 ta si pt fa co nm rd 0 0 (-1) (-1) bc bm gg) := ax_wr_eq
  generalize ax_wr h 145 (eM 0 ta si pt fa co nm rd 0 0 (-1) (-1) bc bm gg) = h1 at hb0 hB e145 ⊢
  have hI1 : MoI h1 0 ta N σ μ := ⟨si, pt, fa, co, nm, rd, bc, bm, gg, F, S, O, A, e145, hB⟩
  obtain ⟨hF, hFT, hL, hM, hR, hSt, hMk⟩ := id hB
  obtain ⟨e151, e152, e153, e159, a157, a158⟩ := id hM
  obtain ⟨hS, hSc, s7, s8⟩ := id hSt
  obtain ⟨f0, f1, f2, f3, fs, fr⟩ := id hF
  have hS5 := hN.1
  have hP7 := hN.2.1
  have hR10 := hN.2.2.1
  have hT6 := hN.2.2.2.1
  unfold sLose at hq0 hq1
  refine ax_aload_n dX12_lose_5 rfl ?_
  refine ax_iload_n dX12_lose_6 rfl ?_
  refine ax_cV dX12_lose_7 mmX12_isRoad lkX12_337 miX12_isRoad msX12_isRoad (ax_recv_of e145 rfl) rfl rfl (Nat.le_of_ble_eq_true rfl) (Nat.le_of_ble_eq_true rfl) rfl rfl (k_isRoad e145 e151 ⟨_, rfl, ?_⟩)
  rw [f2]
  rcases ix_cases (n := nR N) (by omega) x with ⟨hs, hb, -⟩ | ⟨r, hr, rfl, hs, hb⟩
  · rw [hs] at hq0
    rw [hb]
    refine ax_if_eqT 31 dX12_lose_10 (by decide) rfl ?_
    refine ax_iconst dX12_lose_31 (v := nI 0) (by decide) ?_
    exact ax_zreturn dX12_lose_32 rfl ((Or.inl rfl)) (hq0 rfl h1 hb0 hI1)
  · rw [hs] at hq0 hq1
    rw [hb]
    refine ax_if_eqF 31 dX12_lose_10 (by decide) (by decide) ?_
    refine ax_aload_n dX12_lose_13 rfl ?_
    refine ax_iload_n dX12_lose_14 rfl ?_
    refine ax_cV dX12_lose_15 mmX12_isStuff lkX12_330 miX12_isStuff msX12_isStuff (ax_recv_of e145 rfl) rfl rfl (Nat.le_of_ble_eq_true rfl) (Nat.le_of_ble_eq_true rfl) rfl rfl (k_isStuff e145 e151 ⟨_, rfl, ?_⟩)
    rw [f0]
    rcases ix_cases (n := nS N) (by omega) w with ⟨hw, hb, -⟩ | ⟨s, hs5, rfl, hw, hb⟩
    · rw [hw] at hq0
      rw [hb]
      refine ax_if_eqT 31 dX12_lose_18 (by decide) rfl ?_
      refine ax_iconst dX12_lose_31 (v := nI 0) (by decide) ?_
      exact ax_zreturn dX12_lose_32 rfl ((Or.inl rfl)) (hq0 rfl h1 hb0 hI1)
    · rw [hw] at hq0 hq1
      rw [hb]
      refine ax_if_eqF 31 dX12_lose_18 (by decide) (by decide) ?_
      refine ax_iload_n dX12_lose_21 rfl ?_
      refine ax_iconst dX12_lose_22 (v := nI 0) (by decide) ?_
      refine ax_bipush dX12_lose_23 (v := nI 99) (by decide) ?_
      refine ax_cS dX12_lose_25 mmX12_within lkX12_333 mtX12_within rfl rfl (Nat.le_of_ble_eq_true rfl) (Nat.le_of_ble_eq_true rfl) rfl rfl (k_within ⟨_, rfl, ?_⟩)
      rcases wi_cases (b := 99) (by decide) p with ⟨hp, hb⟩ | ⟨v, hv, rfl, hp, hb⟩
      · rw [hp] at hq0
        rw [hb]
        refine ax_if_neF 33 dX12_lose_28 (by decide) rfl ?_
        refine ax_iconst dX12_lose_31 (v := nI 0) (by decide) ?_
        exact ax_zreturn dX12_lose_32 rfl ((Or.inl rfl)) (hq0 rfl h1 hb0 hI1)
      · rw [hp] at hq1
        rw [hb]
        refine ax_if_neT 33 dX12_lose_28 (by decide) (by decide) ?_
        refine ax_aload_n dX12_lose_33 rfl ?_
        refine ax_getf dX12_lose_34 flX12_99 e145 rfl ?_
        refine ax_bipush dX12_lose_37 (v := nI 61) (by decide) ?_
        refine ax_iconst dX12_lose_39 (v := nI 5) (by decide) ?_
        refine ax_iload_n dX12_lose_40 rfl ?_
        refine ax_imul dX12_lose_41 ?_
        refine ax_iadd dX12_lose_42 ?_
        refine ax_iload_n dX12_lose_43 rfl ?_
        refine ax_iadd dX12_lose_44 ?_
        rw [pk_mul 5 r, nI_add 61 (5 * r), nI_add (61 + 5 * r) s]
        refine ax_iload_n dX12_lose_45 rfl ?_
        rw [Nat.add_assoc 61 (5 * r) s]
        refine ax_iast dX12_lose_46 e159 (ax_ix_nI (j := 61 + (5 * r + s)) (by omega) (by decide)) ?_
        have lo : ∀ j, j ≠ 61 + (5 * r + s) → upd S (61 + (5 * r + s)) (nI v) j = S j := fun j hj => pk_un hj
        have hfin : MoI (ax_wr h1 159 (eI 12840 (upd S (61 + (5 * r + s)) (nI v)))) 0 ta N (sUp σ 3 (5 * r + s) v) μ := ⟨si, pt, fa, co, nm, rd, bc, bm, gg, F, _, O, A, (ax_wr_ne (by decide)).trans e145, hF, hFT, hL, hM.st (fun j z1 z2 => ax_wr_ne (by omega)) ax_wr_eq, hR.kept (fun j z1 z2 => ax_wr_ne (by omega)), ⟨⟨(lo 0 (by omega)).trans hS.1, fun q hq => (lo _ (by omega)).trans (hS.2.1 q hq), fun c hc => (lo _ (by omega)).trans (hS.2.2.1 c hc), fun c hc => by
          show upd S (61 + (5 * r + s)) (nI v) (61 + c) = nI (upN (σ 3) (5 * r + s) v c)
          rw [upN_at]
          by_cases hcc : c = 5 * r + s
          · rw [if_pos hcc, hcc, pk_us]
          · rw [if_neg hcc, lo _ (by omega)]
            exact hS.2.2.2 c hc⟩, hSc.kept hN.1 (fun j z1 z2 => lo j (by omega)), fun s' hs' => (lo _ (by omega)).trans (s7 s' hs'), fun z r' s' z1 z2 z3 z4 => (lo _ (by omega)).trans (s8 z r' s' z1 z2 z3 z4)⟩, hMk.st hN (ax_wr_ne (by decide)) (fun j z1 z2 => lo j (by omega))⟩
        refine ax_iconst dX12_lose_47 (v := nI 1) (by decide) ?_
        exact ax_zreturn dX12_lose_48 rfl ((Or.inr rfl)) (hq1 _ rfl _ (hb0.wr (by unfold moP; omega)) hfin)
theorem k_told {x p : Int32} (hN : nOK N) (hI : MoI h th ta N σ μ) (hq0 : sTold N σ x p = none → ∀ h', But h h' moP → MoI h' 0 ta N σ μ → Q (.inl (some (.int 0))) h') (hq1 : ∀ σ', sTold N σ x p = some σ' → ∀ h', But h h' moP → MoI h' 0 ta N σ' μ → Q (.inl (some (.int 1))) h') : X G (d + 2) mX12_told 0 (ax_in 3 [.ref 145, .int x, .int p]) [] h Q := by
  obtain ⟨si, pt, fa, co, nm, rd, bc, bm, gg, F, S, O, A, e145, hB⟩ := hI
  refine ax_aload_n dX12_told_0 rfl ?_
  refine ax_iconst dX12_told_1 (v := nI 0) (by decide) ?_
  refine ax_putf dX12_told_2 flX12_1 e145 (Nat.le_of_ble_eq_true rfl) (fun _ => ⟨rfl, rfl⟩) ?_
  refine ax_hp (h1 := ax_wr h 145 (eM 0 ta si pt fa co nm rd 0 0 (-1) (-1) bc bm gg)) rfl ?_
  have hb0 : But h (ax_wr h 145 (eM 0 ta si pt fa co nm rd 0 0 (-1) (-1) bc bm gg)) moP := But.rf.wr (Or.inl rfl)
  have hB := hB.kept (h' := ax_wr h 145 (eM 0 ta si pt fa co nm rd 0 0 (-1) (-1) bc bm gg)) (fun j z1 z2 => ax_wr_ne (by omega))
  have e145 : (ax_wr h 145 (eM 0 ta si pt fa co nm rd 0 0 (-1) (-1) bc bm gg)).2.2 145 = some (eM 0 ta si pt fa co nm rd 0 0 (-1) (-1) bc bm gg) := ax_wr_eq
  generalize ax_wr h 145 (eM 0 ta si pt fa co nm rd 0 0 (-1) (-1) bc bm gg) = h1 at hb0 hB e145 ⊢
  have hI1 : MoI h1 0 ta N σ μ := ⟨si, pt, fa, co, nm, rd, bc, bm, gg, F, S, O, A, e145, hB⟩
  obtain ⟨hF, hFT, hL, hM, hR, hSt, hMk⟩ := id hB
  obtain ⟨e151, e152, e153, e159, a157, a158⟩ := id hM
  obtain ⟨hS, hSc, s7, s8⟩ := id hSt
  obtain ⟨f0, f1, f2, f3, fs, fr⟩ := id hF
  have hS5 := hN.1
  have hP7 := hN.2.1
  have hR10 := hN.2.2.1
  have hT6 := hN.2.2.2.1
  unfold sTold at hq0 hq1
  refine ax_aload_n dX12_told_5 rfl ?_
  refine ax_iload_n dX12_told_6 rfl ?_
  refine ax_cV dX12_told_7 mmX12_isStuff lkX12_330 miX12_isStuff msX12_isStuff (ax_recv_of e145 rfl) rfl rfl (Nat.le_of_ble_eq_true rfl) (Nat.le_of_ble_eq_true rfl) rfl rfl (k_isStuff e145 e151 ⟨_, rfl, ?_⟩)
  rw [f0]
  rcases ix_cases (n := nS N) (by omega) x with ⟨hs, hb, -⟩ | ⟨s, hs5, rfl, hs, hb⟩
  · rw [hs] at hq0
    rw [hb]
    refine ax_if_eqT 24 dX12_told_10 (by decide) rfl ?_
    refine ax_iconst dX12_told_24 (v := nI 0) (by decide) ?_
    exact ax_zreturn dX12_told_25 rfl ((Or.inl rfl)) (hq0 rfl h1 hb0 hI1)
  · rw [hs] at hq0 hq1
    rw [hb]
    refine ax_if_eqF 24 dX12_told_10 (by decide) (by decide) ?_
    refine ax_iload_n dX12_told_13 rfl ?_
    refine ax_iconst dX12_told_14 (v := nI 0) (by decide) ?_
    refine ax_sipush dX12_told_15 (v := nI 9999) (by decide) ?_
    refine ax_cS dX12_told_18 mmX12_within lkX12_333 mtX12_within rfl rfl (Nat.le_of_ble_eq_true rfl) (Nat.le_of_ble_eq_true rfl) rfl rfl (k_within ⟨_, rfl, ?_⟩)
    rcases wi_cases (b := 9999) (by decide) p with ⟨hp, hb⟩ | ⟨v, hv, rfl, hp, hb⟩
    · rw [hp] at hq0
      rw [hb]
      refine ax_if_neF 26 dX12_told_21 (by decide) rfl ?_
      refine ax_iconst dX12_told_24 (v := nI 0) (by decide) ?_
      exact ax_zreturn dX12_told_25 rfl ((Or.inl rfl)) (hq0 rfl h1 hb0 hI1)
    · rw [hp] at hq1
      rw [hb]
      refine ax_if_neT 26 dX12_told_21 (by decide) (by decide) ?_
      refine ax_aload_n dX12_told_26 rfl ?_
      refine ax_getf dX12_told_27 flX12_99 e145 rfl ?_
      refine ax_sipush dX12_told_30 (v := nI 128) (by decide) ?_
      refine ax_iload_n dX12_told_33 rfl ?_
      refine ax_iadd dX12_told_34 ?_
      rw [nI_add 128 s]
      refine ax_iload_n dX12_told_35 rfl ?_
      refine ax_iast dX12_told_36 e159 (ax_ix_nI (j := 128 + s) (by omega) (by decide)) ?_
      have lo : ∀ j, j ≠ 128 + s → upd S (128 + s) (nI v) j = S j := fun j hj => pk_un hj
      have hfin : MoI (ax_wr h1 159 (eI 12840 (upd S (128 + s) (nI v)))) 0 ta N (sUp σ 7 s v) μ := ⟨si, pt, fa, co, nm, rd, bc, bm, gg, F, _, O, A, (ax_wr_ne (by decide)).trans e145, hF, hFT, hL, hM.st (fun j z1 z2 => ax_wr_ne (by omega)) ax_wr_eq, hR.kept (fun j z1 z2 => ax_wr_ne (by omega)), ⟨hS.kept hN (fun j hj => lo j (by omega)), hSc.kept hN.1 (fun j z1 z2 => lo j (by omega)), fun s' hs' => by
          show upd S (128 + s) (nI v) (128 + s') = nI (upN (σ 7) s v s')
          rw [upN_at]
          by_cases hcc : s' = s
          · rw [if_pos hcc, hcc, pk_us]
          · rw [if_neg hcc, lo _ (by omega)]
            exact s7 s' hs', fun z r' s' z1 z2 z3 z4 => (lo _ (by omega)).trans (s8 z r' s' z1 z2 z3 z4)⟩, hMk.st hN (ax_wr_ne (by decide)) (fun j z1 z2 => lo j (by omega))⟩
      refine ax_iconst dX12_told_37 (v := nI 1) (by decide) ?_
      exact ax_zreturn dX12_told_38 rfl ((Or.inr rfl)) (hq1 _ rfl _ (hb0.wr (by unfold moP; omega)) hfin)
theorem k_layer {y x w : Int32} (hN : nOK N) (hy : σ 0 0 < 2 ^ 30) (hI : MoI h th ta N σ μ) (hq : ∀ h', But h h' moP → MoI h' 0 ta N σ μ → Q (.inl (some (.int (qLayer N σ y x w)))) h') : X G (d + 2) mX12_layer 0 (ax_in 4 [.ref 145, .int y, .int x, .int w]) [] h Q := by
  obtain ⟨si, pt, fa, co, nm, rd, bc, bm, gg, F, S, O, A, e145, hB⟩ := hI
  refine ax_aload_n dX12_layer_0 rfl ?_
  refine ax_iconst dX12_layer_1 (v := nI 0) (by decide) ?_
  refine ax_putf dX12_layer_2 flX12_1 e145 (Nat.le_of_ble_eq_true rfl) (fun _ => ⟨rfl, rfl⟩) ?_
  refine ax_hp (h1 := ax_wr h 145 (eM 0 ta si pt fa co nm rd 0 0 (-1) (-1) bc bm gg)) rfl ?_
  have hb0 : But h (ax_wr h 145 (eM 0 ta si pt fa co nm rd 0 0 (-1) (-1) bc bm gg)) moP := But.rf.wr (Or.inl rfl)
  have hB := hB.kept (h' := ax_wr h 145 (eM 0 ta si pt fa co nm rd 0 0 (-1) (-1) bc bm gg)) (fun j z1 z2 => ax_wr_ne (by omega))
  have e145 : (ax_wr h 145 (eM 0 ta si pt fa co nm rd 0 0 (-1) (-1) bc bm gg)).2.2 145 = some (eM 0 ta si pt fa co nm rd 0 0 (-1) (-1) bc bm gg) := ax_wr_eq
  generalize ax_wr h 145 (eM 0 ta si pt fa co nm rd 0 0 (-1) (-1) bc bm gg) = h1 at hb0 hB e145 ⊢
  have hI1 : MoI h1 0 ta N σ μ := ⟨si, pt, fa, co, nm, rd, bc, bm, gg, F, S, O, A, e145, hB⟩
  obtain ⟨hF, hFT, hL, hM, hR, hSt, hMk⟩ := id hB
  obtain ⟨e151, e152, e153, e159, a157, a158⟩ := id hM
  obtain ⟨hS, hSc, s7, s8⟩ := id hSt
  obtain ⟨f0, f1, f2, f3, fs, fr⟩ := id hF
  have hS5 := hN.1
  have hP7 := hN.2.1
  have hR10 := hN.2.2.1
  have hT6 := hN.2.2.2.1
  have hq := hq h1 hb0 hI1
  unfold qLayer at hq
  have bad : (match ixN (nR N) x, ixN (nS N) w, ixN 40 y with | some r, some s, some k => if k < σ 0 0 then nI (σ 8 (50 * k + (5 * r + s))) else -1 | _, _, _ => -1) = -1 → X G (d + 2) mX12_layer 41 [some (.ref 145), some (.int y), some (.int x), some (.int w)] [] h1 Q := fun z => by
    refine ax_iconst dX12_layer_41 (v := -1) (by decide) ?_
    exact ax_ireturn dX12_layer_42 rfl (by rw [← z]; exact hq)
  refine ax_iload_n dX12_layer_5 rfl ?_
  refine ax_iconst dX12_layer_6 (v := nI 0) (by decide) ?_
  refine ax_bipush dX12_layer_7 (v := nI 39) (by decide) ?_
  refine ax_cS dX12_layer_9 mmX12_within lkX12_333 mtX12_within rfl rfl (Nat.le_of_ble_eq_true rfl) (Nat.le_of_ble_eq_true rfl) rfl rfl (k_within ⟨_, rfl, ?_⟩)
  rcases wi_cases (b := 39) (by decide) y with ⟨hy', hb⟩ | ⟨k, hk, rfl, hy', hb⟩
  · rw [hb]
    refine ax_if_eqT 41 dX12_layer_12 (by decide) rfl ?_
    exact bad (by rw [hy']; cases ixN (nR N) x <;> cases ixN (nS N) w <;> rfl)
  · rw [hb]
    refine ax_if_eqF 41 dX12_layer_12 (by decide) (by decide) ?_
    refine ax_iload_n dX12_layer_15 rfl ?_
    refine ax_aload_n dX12_layer_16 rfl ?_
    refine ax_getf dX12_layer_17 flX12_99 e145 rfl ?_
    refine ax_iconst dX12_layer_20 (v := nI 0) (by decide) ?_
    refine ax_iald dX12_layer_21 e159 (ax_ix_nI (j := 0) (by decide) (by decide)) ?_
    rw [hS.1]
    by_cases hk0 : k < σ 0 0
    · refine ax_icmp_geF 41 dX12_layer_22 (by decide) (nI_ge hk0 (by omega)) ?_
      refine ax_aload_n dX12_layer_25 rfl ?_
      refine ax_iload_n dX12_layer_26 rfl ?_
      refine ax_cV dX12_layer_27 mmX12_isRoad lkX12_337 miX12_isRoad msX12_isRoad (ax_recv_of e145 rfl) rfl rfl (Nat.le_of_ble_eq_true rfl) (Nat.le_of_ble_eq_true rfl) rfl rfl (k_isRoad e145 e151 ⟨_, rfl, ?_⟩)
      rw [f2]
      rcases ix_cases (n := nR N) (by omega) x with ⟨hs, hb, -⟩ | ⟨r, hr, rfl, hs, hb⟩
      · rw [hb]
        refine ax_if_eqT 41 dX12_layer_30 (by decide) rfl ?_
        exact bad (by rw [hs])
      · rw [hb]
        refine ax_if_eqF 41 dX12_layer_30 (by decide) (by decide) ?_
        refine ax_aload_n dX12_layer_33 rfl ?_
        refine ax_iload_n dX12_layer_34 rfl ?_
        refine ax_cV dX12_layer_35 mmX12_isStuff lkX12_330 miX12_isStuff msX12_isStuff (ax_recv_of e145 rfl) rfl rfl (Nat.le_of_ble_eq_true rfl) (Nat.le_of_ble_eq_true rfl) rfl rfl (k_isStuff e145 e151 ⟨_, rfl, ?_⟩)
        rw [f0]
        rcases ix_cases (n := nS N) (by omega) w with ⟨hw, hb, -⟩ | ⟨s, hs5, rfl, hw, hb⟩
        · rw [hb]
          refine ax_if_neF 43 dX12_layer_38 (by decide) rfl ?_
          exact bad (by rw [hw]; cases ixN (nR N) (nI r) <;> rfl)
        · rw [hb]
          rw [hs, hw, hy'] at hq
          dsimp only at hq
          rw [if_pos hk0] at hq
          refine ax_if_neT 43 dX12_layer_38 (by decide) (by decide) ?_
          refine ax_aload_n dX12_layer_43 rfl ?_
          refine ax_getf dX12_layer_44 flX12_99 e145 rfl ?_
          refine ax_sipush dX12_layer_47 (v := nI 133) (by decide) ?_
          refine ax_bipush dX12_layer_50 (v := nI 50) (by decide) ?_
          refine ax_iload_n dX12_layer_52 rfl ?_
          refine ax_imul dX12_layer_53 ?_
          refine ax_iadd dX12_layer_54 ?_
          refine ax_iconst dX12_layer_55 (v := nI 5) (by decide) ?_
          refine ax_iload_n dX12_layer_56 rfl ?_
          refine ax_imul dX12_layer_57 ?_
          refine ax_iadd dX12_layer_58 ?_
          refine ax_iload_n dX12_layer_59 rfl ?_
          refine ax_iadd dX12_layer_60 ?_
          rw [pk_mul 50 k, nI_add 133 (50 * k), pk_mul 5 r, nI_add (133 + 50 * k) (5 * r), nI_add (133 + 50 * k + 5 * r) s, Nat.add_assoc (133 + 50 * k) (5 * r) s]
          refine ax_iald dX12_layer_61 e159 (ax_ix_nI (j := 133 + 50 * k + (5 * r + s)) (by omega) (by decide)) ?_
          rw [s8 k r s hk0 (by omega) hr hs5]
          exact ax_ireturn dX12_layer_62 rfl hq
    · refine ax_icmp_geT 41 dX12_layer_22 (by decide) (nI_le (by omega) (by omega)) ?_
      exact bad (by rw [hy']; cases ixN (nR N) x <;> cases ixN (nS N) w <;> first | rfl | exact if_neg hk0)
theorem k_count {x : Int32} {len : Nat} (hta : ta = nI len) (hN : nOK N) (hO : ∀ r, r < 10 → σ 1 r < 100000) (hI : MoI h th ta N σ μ) (hq : ∀ h', But h h' moP → MoI h' 0 ta N σ μ → Q (.inl (some (.int (qCount N σ len x)))) h') : X G (d + 2) mX12_count 0 (ax_in 2 [.ref 145, .int x]) [] h Q := by
  obtain ⟨si, pt, fa, co, nm, rd, bc, bm, gg, F, S, O, A, e145, hB⟩ := hI
  refine ax_aload_n dX12_count_0 rfl ?_
  refine ax_iconst dX12_count_1 (v := nI 0) (by decide) ?_
  refine ax_putf dX12_count_2 flX12_1 e145 (Nat.le_of_ble_eq_true rfl) (fun _ => ⟨rfl, rfl⟩) ?_
  refine ax_hp (h1 := ax_wr h 145 (eM 0 ta si pt fa co nm rd 0 0 (-1) (-1) bc bm gg)) rfl ?_
  have hb0 : But h (ax_wr h 145 (eM 0 ta si pt fa co nm rd 0 0 (-1) (-1) bc bm gg)) moP := But.rf.wr (Or.inl rfl)
  have hB := hB.kept (h' := ax_wr h 145 (eM 0 ta si pt fa co nm rd 0 0 (-1) (-1) bc bm gg)) (fun j z1 z2 => ax_wr_ne (by omega))
  have e145 : (ax_wr h 145 (eM 0 ta si pt fa co nm rd 0 0 (-1) (-1) bc bm gg)).2.2 145 = some (eM 0 ta si pt fa co nm rd 0 0 (-1) (-1) bc bm gg) := ax_wr_eq
  generalize ax_wr h 145 (eM 0 ta si pt fa co nm rd 0 0 (-1) (-1) bc bm gg) = h1 at hb0 hB e145 ⊢
  have hI1 : MoI h1 0 ta N σ μ := ⟨si, pt, fa, co, nm, rd, bc, bm, gg, F, S, O, A, e145, hB⟩
  obtain ⟨hF, hFT, hL, hM, hR, hSt, hMk⟩ := id hB
  obtain ⟨e151, e152, e153, e159, a157, a158⟩ := id hM
  obtain ⟨hS, hSc, s7, s8⟩ := id hSt
  obtain ⟨f0, f1, f2, f3, fs, fr⟩ := id hF
  have hS5 := hN.1
  have hP7 := hN.2.1
  have hR10 := hN.2.2.1
  have hT6 := hN.2.2.2.1
  have hq := hq h1 hb0 hI1
  unfold qCount at hq
  rcases ix_cases (n := 8) (by decide) x with ⟨hs, -, ho⟩ | ⟨j, hj, rfl, hs, -⟩
  · rw [hs] at hq
    refine ax_iload_n dX12_count_5 rfl ?_
    refine ax_tableOut 96 dX12_count_6 (out_of (n := 7) (by decide) ho (by decide)) (by decide) ?_
    refine ax_iconst dX12_count_96 (v := -1) (by decide) ?_
    exact ax_ireturn dX12_count_97 rfl hq
  · rw [hs] at hq
    rcases (show j = 0 ∨ j = 1 ∨ j = 2 ∨ j = 3 ∨ j = 4 ∨ j = 5 ∨ j = 6 ∨ j = 7 by omega) with rfl | rfl | rfl | rfl | rfl | rfl | rfl | rfl
    · refine ax_iload_n dX12_count_5 rfl ?_
      refine ax_tableIn 52 dX12_count_6 (by decide) (by decide) rfl (by decide) ?_
      refine ax_aload_n dX12_count_52 rfl ?_
      refine ax_cV dX12_count_53 mmX12_stuffs lkX12_273 miX12_stuffs msX12_stuffs (ax_recv_of e145 rfl) rfl rfl (Nat.le_of_ble_eq_true rfl) (Nat.le_of_ble_eq_true rfl) rfl rfl (k_stuffs e145 e151 ⟨_, rfl, ?_⟩)
      rw [f0]
      exact ax_ireturn dX12_count_56 rfl hq
    · refine ax_iload_n dX12_count_5 rfl ?_
      refine ax_tableIn 57 dX12_count_6 (by decide) (by decide) rfl (by decide) ?_
      refine ax_aload_n dX12_count_57 rfl ?_
      refine ax_getf dX12_count_58 flX12_75 e145 rfl ?_
      refine ax_iconst dX12_count_61 (v := nI 1) (by decide) ?_
      refine ax_iald dX12_count_62 e151 (ax_ix_nI (j := 1) (by decide) (by decide)) ?_
      rw [f1]
      exact ax_ireturn dX12_count_63 rfl hq
    · refine ax_iload_n dX12_count_5 rfl ?_
      refine ax_tableIn 64 dX12_count_6 (by decide) (by decide) rfl (by decide) ?_
      refine ax_aload_n dX12_count_64 rfl ?_
      refine ax_cV dX12_count_65 mmX12_roads lkX12_194 miX12_roads msX12_roads (ax_recv_of e145 rfl) rfl rfl (Nat.le_of_ble_eq_true rfl) (Nat.le_of_ble_eq_true rfl) rfl rfl (k_roads e145 e151 ⟨_, rfl, ?_⟩)
      rw [f2]
      exact ax_ireturn dX12_count_68 rfl hq
    · refine ax_iload_n dX12_count_5 rfl ?_
      refine ax_tableIn 69 dX12_count_6 (by decide) (by decide) rfl (by decide) ?_
      refine ax_aload_n dX12_count_69 rfl ?_
      refine ax_cV dX12_count_70 mmX12_trades lkX12_276 miX12_trades msX12_trades (ax_recv_of e145 rfl) rfl rfl (Nat.le_of_ble_eq_true rfl) (Nat.le_of_ble_eq_true rfl) rfl rfl (k_trades (Or.inl rfl) e145 e151 ⟨_, rfl, ?_⟩)
      rw [show F 3 + 0 = nI (nT N) by rw [f3]; exact Int32.add_zero _]
      exact ax_ireturn dX12_count_73 rfl hq
    · refine ax_iload_n dX12_count_5 rfl ?_
      refine ax_tableIn 74 dX12_count_6 (by decide) (by decide) rfl (by decide) ?_
      refine ax_aload_n dX12_count_74 rfl ?_
      refine ax_getf dX12_count_75 flX12_99 e145 rfl ?_
      refine ax_iconst dX12_count_78 (v := nI 0) (by decide) ?_
      refine ax_iald dX12_count_79 e159 (ax_ix_nI (j := 0) (by decide) (by decide)) ?_
      rw [hS.1]
      exact ax_ireturn dX12_count_80 rfl hq
    · refine ax_iload_n dX12_count_5 rfl ?_
      refine ax_tableIn 81 dX12_count_6 (by decide) (by decide) rfl (by decide) ?_
      refine ax_aload_n dX12_count_81 rfl ?_
      refine ax_cV dX12_count_82 mmX12_worn lkX12_387 miX12_worn msX12_worn (ax_recv_of e145 rfl) rfl rfl (Nat.le_of_ble_eq_true rfl) (Nat.le_of_ble_eq_true rfl) rfl rfl (k_worn (d := d) hN hO hF hS e145 e151 e159 ⟨_, rfl, ?_⟩)
      exact ax_ireturn dX12_count_85 rfl hq
    · refine ax_iload_n dX12_count_5 rfl ?_
      refine ax_tableIn 86 dX12_count_6 (by decide) (by decide) rfl (by decide) ?_
      refine ax_aload_n dX12_count_86 rfl ?_
      refine ax_cV dX12_count_87 mmX12_allHoles lkX12_359 miX12_allHoles msX12_allHoles (ax_recv_of e145 rfl) rfl rfl (Nat.le_of_ble_eq_true rfl) (Nat.le_of_ble_eq_true rfl) rfl rfl (k_allHoles (d := d) hN hO hF hS e145 e151 e159 ⟨_, rfl, ?_⟩)
      exact ax_ireturn dX12_count_90 rfl hq
    · refine ax_iload_n dX12_count_5 rfl ?_
      refine ax_tableIn 91 dX12_count_6 (by decide) (by decide) rfl (by decide) ?_
      refine ax_aload_n dX12_count_91 rfl ?_
      refine ax_getf dX12_count_92 flX12_11 e145 rfl ?_
      rw [hta]
      exact ax_ireturn dX12_count_95 rfl hq
end MB2
