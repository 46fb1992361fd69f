/-! ===== the model between calls, and its calls ===== -/
def StF (S : Nat → Int32) (N : Nt) (σ : Sd) : Prop := Sb S N σ ∧ Sc S (nS N) (σ 5) (σ 6) (σ 4) ∧ (∀ s, s < 5 → S (128 + s) = nI (σ 7 s)) ∧ (∀ z r s, z < σ 0 0 → z < 40 → r < nR N → s < nS N → S (133 + 50 * z + (5 * r + s)) = nI (σ 8 (50 * z + (5 * r + s))))
def MkM (h : ax_H) (S : Nat → Int32) (N : Nt) (μ : Nat → Option Sd) : Prop := ∃ Z : Nat → Int32, h.2.2 160 = some (eZ 4 Z) ∧ ∀ m, m < 4 → (Z m = if (μ m).isSome then 1 else 0) ∧ ∀ τ, μ m = some τ → StF (fun j => S (2140 * (1 + m) + j)) N τ
def MoB (h : ax_H) (F S O A : Nat → Int32) (N : Nt) (σ : Sd) (μ : Nat → Option Sd) : Prop := FnB F N ∧ FnT F (nT N) (trN N) ∧ FnL F O A N ∧ MC h F S O A ∧ MR h ∧ StF S N σ ∧ MkM h S N μ
def MoI (h : ax_H) (th ta : Int32) (N : Nt) (σ : Sd) (μ : Nat → Option Sd) : Prop := ∃ (si pt fa co nm rd bc bm : Int32) (gg : Int64) (F S O A : Nat → Int32), h.2.2 145 = some (eM th ta si pt fa co nm rd 0 0 (-1) (-1) bc bm gg) ∧ MoB h F S O A N σ μ
def moP : Nat → Prop := fun j => j = 145 ∨ j = 151 ∨ (157 ≤ j ∧ j ≤ 166)
section MB1
variable {G : ax_G} {d : Nat} {h : ax_H} {Q : ax_O → ax_H → Prop} {N : Nt} {σ : Sd} {μ : Nat → Option Sd} {th ta : Int32}
theorem MC.kept {h' : ax_H} {F S O A : Nat → Int32} (a : MC h F S O A) (hk : ∀ j, 151 ≤ j → j ≤ 159 → h'.2.2 j = h.2.2 j) : MC h' F S O A := a.st (fun j z1 z2 => hk j z1 (by omega)) ((hk 159 (by omega) (by omega)).trans a.2.2.2.1)
theorem MkM.kept {h' : ax_H} {S : Nat → Int32} (a : MkM h S N μ) (hk : h'.2.2 160 = h.2.2 160) : MkM h' S N μ := by
  obtain ⟨Z, e, q⟩ := a
  exact ⟨Z, hk.trans e, q⟩
theorem MoB.kept {h' : ax_H} {F S O A : Nat → Int32} (a : MoB h F S O A N σ μ) (hk : ∀ j, 151 ≤ j → j ≤ 166 → h'.2.2 j = h.2.2 j) : MoB h' F S O A N σ μ := by
  obtain ⟨a1, a2, a3, a4, a5, a6, a7⟩ := a
  exact ⟨a1, a2, a3, a4.kept (fun j z1 z2 => hk j z1 (by omega)), a5.kept (fun j z1 z2 => hk j (by omega) z2), a6, a7.kept (hk _ (by omega) (by omega))⟩
theorem MoB.mf {h' : ax_H} {F S O A : Nat → Int32} (a : MoB h F S O A N σ μ) (hb : But h h' mfP) (hM : MC h' F S O A) : MoB h' F S O A N σ μ := by
  obtain ⟨a1, a2, a3, a4, a5, a6, a7⟩ := a
  exact ⟨a1, a2, a3, hM, a5.kept (fun j z1 z2 => hb.2.2 j (by unfold mfP; omega)), a6, a7.kept (hb.2.2 160 (by unfold mfP; omega))⟩
theorem FnT.td {F : Nat → Int32} {T : Nat} {tr : Nat → Nat → Nat} (a : FnT F T tr) : TdI F (-1) T tr := fun t ht i hi => by
  unfold tdF
  rw [if_neg (fun q => q.2 (by decide))]
  exact a t ht i hi
theorem wi_cases {b : Nat} (hb : b + 1 < 2 ^ 31) (x : Int32) : (ixN (b + 1) x = none ∧ b1 (¬ x < nI 0 ∧ ¬ nI b < x) = 0) ∨ ∃ j, j < b + 1 ∧ x = nI j ∧ ixN (b + 1) x = some j ∧ b1 (¬ x < nI 0 ∧ ¬ nI b < x) = 1 := by
  rcases ix_cases (n := b + 1) hb x with ⟨hs, -, ho⟩ | ⟨j, hj, rfl, hs, -⟩
  · refine Or.inl ⟨hs, b1_f (fun q => ?_)⟩
    rcases ho with z | z
    · exact q.1 z
    · exact q.2 (Int32.lt_of_lt_of_le (nI_lt (by omega) hb) z)
  · exact Or.inr ⟨j, hj, rfl, hs, b1_t ⟨nI_nlt (by omega) (by omega), nI_nlt (by omega) (by omega)⟩⟩
theorem k_stuff {x w : Int32} (hN : nOK N) (hI : MoI h th ta N σ μ) (hq : ∀ h', But h h' moP → MoI h' 0 ta N σ μ → Q (.inl (some (.int (qStuff N σ x w)))) h') : X G (d + 2) mX12_stuff 0 (ax_in 3 [.ref 145, .int x, .int w]) [] h Q := by
  obtain ⟨si, pt, fa, co, nm, rd, bc, bm, gg, F, S, O, A, e145, hB⟩ := hI
  refine ax_aload_n dX12_stuff_0 rfl ?_
  refine ax_iconst dX12_stuff_1 (v := nI 0) (by decide) ?_
  refine ax_putf dX12_stuff_2 flX12_1 e145 (Nat.le_of_ble_eq_true rfl) (fun _ => ⟨rfl, rfl⟩) ?_
  refine ax_hp (h1 := ax_wr h 145 (eM 0 ta si pt fa co nm rd 0 0 (-1) (-1) bc bm gg)) rfl ?_
  have hb0 : But h (ax_wr h 145 (eM 0 ta si pt fa co nm rd 0 0 (-1) (-1) bc bm gg)) moP := But.rf.wr (Or.inl rfl)
  have hB := hB.kept (h' := ax_wr h 145 (eM 0 ta si pt fa co nm rd 0 0 (-1) (-1) bc bm gg)) (fun j z1 z2 => ax_wr_ne (by omega))
  have e145 : (ax_wr h 145 (eM 0 ta si pt fa co nm rd 0 0 (-1) (-1) bc bm gg)).2.2 145 = some (eM 0 ta si pt fa co nm rd 0 0 (-1) (-1) bc bm gg) := ax_wr_eq
  generalize ax_wr h 145 (eM 0 ta si pt fa co nm rd 0 0 (-1) (-1) bc bm gg) = h1 at hb0 hB e145 ⊢
  have hI1 : MoI h1 0 ta N σ μ := ⟨si, pt, fa, co, nm, rd, bc, bm, gg, F, S, O, A, e145, hB⟩
  obtain ⟨hF, hFT, hL, hM, hR, hSt, hMk⟩ := id hB
  obtain ⟨e151, e152, e153, e159, a157, a158⟩ := id hM
  obtain ⟨hS, hSc, s7, s8⟩ := id hSt
  obtain ⟨f0, f1, f2, f3, fs, fr⟩ := id hF
  have hS5 := hN.1
  have hP7 := hN.2.1
  have hR10 := hN.2.2.1
  have hT6 := hN.2.2.2.1
  have hq := hq h1 hb0 hI1
  unfold qStuff at hq
  refine ax_aload_n dX12_stuff_5 rfl ?_
  refine ax_iload_n dX12_stuff_6 rfl ?_
  refine ax_cV dX12_stuff_7 mmX12_isStuff lkX12_330 miX12_isStuff msX12_isStuff (ax_recv_of e145 rfl) rfl rfl (Nat.le_of_ble_eq_true rfl) (Nat.le_of_ble_eq_true rfl) rfl rfl (k_isStuff e145 e151 ⟨_, rfl, ?_⟩)
  rw [f0]
  rcases ix_cases (n := nS N) (by omega) x with ⟨hs, hb, -⟩ | ⟨s, hs5, rfl, hs, hb⟩
  · rw [hs] at hq
    rw [hb]
    refine ax_if_eqT 22 dX12_stuff_10 (by decide) rfl ?_
    refine ax_iconst dX12_stuff_22 (v := -1) (by decide) ?_
    exact ax_ireturn dX12_stuff_23 rfl hq
  · rw [hs] at hq
    rw [hb]
    refine ax_if_eqF 22 dX12_stuff_10 (by decide) (by decide) ?_
    refine ax_iload_n dX12_stuff_13 rfl ?_
    refine ax_iconst dX12_stuff_14 (v := nI 0) (by decide) ?_
    refine ax_iconst dX12_stuff_15 (v := nI 2) (by decide) ?_
    refine ax_cS dX12_stuff_16 mmX12_within lkX12_333 mtX12_within rfl rfl (Nat.le_of_ble_eq_true rfl) (Nat.le_of_ble_eq_true rfl) rfl rfl (k_within ⟨_, rfl, ?_⟩)
    rcases wi_cases (b := 2) (by decide) w with ⟨hw, hb⟩ | ⟨j, hj, rfl, hw, hb⟩
    · rw [hw] at hq
      rw [hb]
      refine ax_if_neF 24 dX12_stuff_19 (by decide) rfl ?_
      refine ax_iconst dX12_stuff_22 (v := -1) (by decide) ?_
      exact ax_ireturn dX12_stuff_23 rfl hq
    · rw [hw] at hq
      rw [hb]
      rcases (show j = 0 ∨ j = 1 ∨ j = 2 by omega) with rfl | rfl | rfl
      · refine ax_if_neT 24 dX12_stuff_19 (by decide) (by decide) ?_
        refine ax_iload_n dX12_stuff_24 rfl ?_
        refine ax_iconst dX12_stuff_25 (v := nI 2) (by decide) ?_
        refine ax_icmp_geF 45 dX12_stuff_26 (by decide) (by decide) ?_
        refine ax_aload_n dX12_stuff_29 rfl ?_
        refine ax_getf dX12_stuff_30 flX12_75 e145 rfl ?_
        refine ax_bipush dX12_stuff_33 (v := nI 7) (by decide) ?_
        refine ax_iconst dX12_stuff_35 (v := nI 2) (by decide) ?_
        refine ax_iload_n dX12_stuff_36 rfl ?_
        refine ax_imul dX12_stuff_37 ?_
        refine ax_iadd dX12_stuff_38 ?_
        refine ax_iload_n dX12_stuff_39 rfl ?_
        refine ax_iadd dX12_stuff_40 ?_
        rw [pk_mul 2 s, nI_add 7 (2 * s), nI_add (7 + 2 * s) 0]
        refine ax_iald dX12_stuff_41 e151 (ax_ix_nI (j := 7 + 2 * s + 0) (by omega) (by decide)) ?_
        rw [show F (7 + 2 * s + 0) = nI (N.1 1 s) from (fs s hs5).1]
        refine ax_goto 54 dX12_stuff_42 (by decide) ?_
        exact ax_ireturn dX12_stuff_54 rfl hq
      · refine ax_if_neT 24 dX12_stuff_19 (by decide) (by decide) ?_
        refine ax_iload_n dX12_stuff_24 rfl ?_
        refine ax_iconst dX12_stuff_25 (v := nI 2) (by decide) ?_
        refine ax_icmp_geF 45 dX12_stuff_26 (by decide) (by decide) ?_
        refine ax_aload_n dX12_stuff_29 rfl ?_
        refine ax_getf dX12_stuff_30 flX12_75 e145 rfl ?_
        refine ax_bipush dX12_stuff_33 (v := nI 7) (by decide) ?_
        refine ax_iconst dX12_stuff_35 (v := nI 2) (by decide) ?_
        refine ax_iload_n dX12_stuff_36 rfl ?_
        refine ax_imul dX12_stuff_37 ?_
        refine ax_iadd dX12_stuff_38 ?_
        refine ax_iload_n dX12_stuff_39 rfl ?_
        refine ax_iadd dX12_stuff_40 ?_
        rw [pk_mul 2 s, nI_add 7 (2 * s), nI_add (7 + 2 * s) 1]
        refine ax_iald dX12_stuff_41 e151 (ax_ix_nI (j := 7 + 2 * s + 1) (by omega) (by decide)) ?_
        rw [(fs s hs5).2]
        refine ax_goto 54 dX12_stuff_42 (by decide) ?_
        exact ax_ireturn dX12_stuff_54 rfl hq
      · refine ax_if_neT 24 dX12_stuff_19 (by decide) (by decide) ?_
        refine ax_iload_n dX12_stuff_24 rfl ?_
        refine ax_iconst dX12_stuff_25 (v := nI 2) (by decide) ?_
        refine ax_icmp_geT 45 dX12_stuff_26 (by decide) (by decide) ?_
        refine ax_aload_n dX12_stuff_45 rfl ?_
        refine ax_getf dX12_stuff_46 flX12_99 e145 rfl ?_
        refine ax_bipush dX12_stuff_49 (v := nI 123) (by decide) ?_
        refine ax_iload_n dX12_stuff_51 rfl ?_
        refine ax_iadd dX12_stuff_52 ?_
        rw [nI_add 123 s]
        refine ax_iald dX12_stuff_53 e159 (ax_ix_nI (j := 123 + s) (by omega) (by decide)) ?_
        rw [hSc.2.2 s hs5]
        exact ax_ireturn dX12_stuff_54 rfl hq
theorem k_road {x w : Int32} (hN : nOK N) (hO : sOK N σ) (hI : MoI h th ta N σ μ) (hq : ∀ h', But h h' moP → MoI h' 0 ta N σ μ → Q (.inl (some (.int (qRoad N σ x w)))) h') : X G (d + 2) mX12_road 0 (ax_in 3 [.ref 145, .int x, .int w]) [] h Q := by
  obtain ⟨si, pt, fa, co, nm, rd, bc, bm, gg, F, S, O, A, e145, hB⟩ := hI
  refine ax_aload_n dX12_road_0 rfl ?_
  refine ax_iconst dX12_road_1 (v := nI 0) (by decide) ?_
  refine ax_putf dX12_road_2 flX12_1 e145 (Nat.le_of_ble_eq_true rfl) (fun _ => ⟨rfl, rfl⟩) ?_
  refine ax_hp (h1 := ax_wr h 145 (eM 0 ta si pt fa co nm rd 0 0 (-1) (-1) bc bm gg)) rfl ?_
  have hb0 : But h (ax_wr h 145 (eM 0 ta si pt fa co nm rd 0 0 (-1) (-1) bc bm gg)) moP := But.rf.wr (Or.inl rfl)
  have hB := hB.kept (h' := ax_wr h 145 (eM 0 ta si pt fa co nm rd 0 0 (-1) (-1) bc bm gg)) (fun j z1 z2 => ax_wr_ne (by omega))
  have e145 : (ax_wr h 145 (eM 0 ta si pt fa co nm rd 0 0 (-1) (-1) bc bm gg)).2.2 145 = some (eM 0 ta si pt fa co nm rd 0 0 (-1) (-1) bc bm gg) := ax_wr_eq
  generalize ax_wr h 145 (eM 0 ta si pt fa co nm rd 0 0 (-1) (-1) bc bm gg) = h1 at hb0 hB e145 ⊢
  have hI1 : MoI h1 0 ta N σ μ := ⟨si, pt, fa, co, nm, rd, bc, bm, gg, F, S, O, A, e145, hB⟩
  obtain ⟨hF, hFT, hL, hM, hR, hSt, hMk⟩ := id hB
  obtain ⟨e151, e152, e153, e159, a157, a158⟩ := id hM
  obtain ⟨hS, hSc, s7, s8⟩ := id hSt
  obtain ⟨f0, f1, f2, f3, fs, fr⟩ := id hF
  have hS5 := hN.1
  have hP7 := hN.2.1
  have hR10 := hN.2.2.1
  have hT6 := hN.2.2.2.1
  have hq := hq h1 hb0 hI1
  unfold qRoad at hq
  refine ax_aload_n dX12_road_5 rfl ?_
  refine ax_iload_n dX12_road_6 rfl ?_
  refine ax_cV dX12_road_7 mmX12_isRoad lkX12_337 miX12_isRoad msX12_isRoad (ax_recv_of e145 rfl) rfl rfl (Nat.le_of_ble_eq_true rfl) (Nat.le_of_ble_eq_true rfl) rfl rfl (k_isRoad e145 e151 ⟨_, rfl, ?_⟩)
  rw [f2]
  rcases ix_cases (n := nR N) (by omega) x with ⟨hs, hb, -⟩ | ⟨r, hr, rfl, hs, hb⟩
  · rw [hs] at hq
    rw [hb]
    refine ax_if_eqT 23 dX12_road_10 (by decide) rfl ?_
    refine ax_iconst dX12_road_23 (v := -1) (by decide) ?_
    exact ax_ireturn dX12_road_24 rfl hq
  · rw [hs] at hq
    rw [hb]
    obtain ⟨r0, r1', r2⟩ := fr r hr
    have hh := hO.1 r (by omega)
    refine ax_if_eqF 23 dX12_road_10 (by decide) (by decide) ?_
    refine ax_iload_n dX12_road_13 rfl ?_
    refine ax_iconst dX12_road_14 (v := nI 0) (by decide) ?_
    refine ax_bipush dX12_road_15 (v := nI 6) (by decide) ?_
    refine ax_cS dX12_road_17 mmX12_within lkX12_333 mtX12_within rfl rfl (Nat.le_of_ble_eq_true rfl) (Nat.le_of_ble_eq_true rfl) rfl rfl (k_within ⟨_, rfl, ?_⟩)
    rcases wi_cases (b := 6) (by decide) w with ⟨hw, hb⟩ | ⟨j, hj, rfl, hw, hb⟩
    · rw [hw] at hq
      rw [hb]
      refine ax_if_neF 25 dX12_road_20 (by decide) rfl ?_
      refine ax_iconst dX12_road_23 (v := -1) (by decide) ?_
      exact ax_ireturn dX12_road_24 rfl hq
    · rw [hw] at hq
      rw [hb]
      rcases (show j = 0 ∨ j = 1 ∨ j = 2 ∨ j = 3 ∨ j = 4 ∨ j = 5 ∨ j = 6 by omega) with rfl | rfl | rfl | rfl | rfl | rfl | rfl
      · refine ax_if_neT 25 dX12_road_20 (by decide) (by decide) ?_
        refine ax_iload_n dX12_road_25 rfl ?_
        refine ax_iconst dX12_road_26 (v := nI 3) (by decide) ?_
        refine ax_icmp_geF 39 dX12_road_27 (by decide) (by decide) ?_
        refine ax_aload_n dX12_road_30 rfl ?_
        refine ax_iload_n dX12_road_31 rfl ?_
        refine ax_iload_n dX12_road_32 rfl ?_
        refine ax_cV dX12_road_33 mmX12_roadOf lkX12_279 miX12_roadOf msX12_roadOf (ax_recv_of e145 rfl) rfl rfl (Nat.le_of_ble_eq_true rfl) (Nat.le_of_ble_eq_true rfl) rfl rfl (k_roadOf (i := 0) (by omega) (by omega) e145 e151 ⟨_, rfl, ?_⟩)
        rw [r0]
        refine ax_goto 85 dX12_road_36 (by decide) ?_
        exact ax_ireturn dX12_road_85 rfl hq
      · refine ax_if_neT 25 dX12_road_20 (by decide) (by decide) ?_
        refine ax_iload_n dX12_road_25 rfl ?_
        refine ax_iconst dX12_road_26 (v := nI 3) (by decide) ?_
        refine ax_icmp_geF 39 dX12_road_27 (by decide) (by decide) ?_
        refine ax_aload_n dX12_road_30 rfl ?_
        refine ax_iload_n dX12_road_31 rfl ?_
        refine ax_iload_n dX12_road_32 rfl ?_
        refine ax_cV dX12_road_33 mmX12_roadOf lkX12_279 miX12_roadOf msX12_roadOf (ax_recv_of e145 rfl) rfl rfl (Nat.le_of_ble_eq_true rfl) (Nat.le_of_ble_eq_true rfl) rfl rfl (k_roadOf (i := 1) (by omega) (by omega) e145 e151 ⟨_, rfl, ?_⟩)
        rw [r1']
        refine ax_goto 85 dX12_road_36 (by decide) ?_
        exact ax_ireturn dX12_road_85 rfl hq
      · refine ax_if_neT 25 dX12_road_20 (by decide) (by decide) ?_
        refine ax_iload_n dX12_road_25 rfl ?_
        refine ax_iconst dX12_road_26 (v := nI 3) (by decide) ?_
        refine ax_icmp_geF 39 dX12_road_27 (by decide) (by decide) ?_
        refine ax_aload_n dX12_road_30 rfl ?_
        refine ax_iload_n dX12_road_31 rfl ?_
        refine ax_iload_n dX12_road_32 rfl ?_
        refine ax_cV dX12_road_33 mmX12_roadOf lkX12_279 miX12_roadOf msX12_roadOf (ax_recv_of e145 rfl) rfl rfl (Nat.le_of_ble_eq_true rfl) (Nat.le_of_ble_eq_true rfl) rfl rfl (k_roadOf (i := 2) (by omega) (by omega) e145 e151 ⟨_, rfl, ?_⟩)
        rw [r2]
        refine ax_goto 85 dX12_road_36 (by decide) ?_
        exact ax_ireturn dX12_road_85 rfl hq
      · refine ax_if_neT 25 dX12_road_20 (by decide) (by decide) ?_
        refine ax_iload_n dX12_road_25 rfl ?_
        refine ax_iconst dX12_road_26 (v := nI 3) (by decide) ?_
        refine ax_icmp_geT 39 dX12_road_27 (by decide) (by decide) ?_
        refine ax_iload_n dX12_road_39 rfl ?_
        refine ax_iconst dX12_road_40 (v := nI 3) (by decide) ?_
        refine ax_icmp_neF 55 dX12_road_41 (by decide) rfl ?_
        refine ax_aload_n dX12_road_44 rfl ?_
        refine ax_getf dX12_road_45 flX12_99 e145 rfl ?_
        refine ax_iconst dX12_road_48 (v := nI 1) (by decide) ?_
        refine ax_iload_n dX12_road_49 rfl ?_
        refine ax_iadd dX12_road_50 ?_
        rw [nI_add 1 r]
        refine ax_iald dX12_road_51 e159 (ax_ix_nI (j := 1 + r) (by omega) (by decide)) ?_
        rw [hS.2.1 r hr]
        refine ax_goto 85 dX12_road_52 (by decide) ?_
        exact ax_ireturn dX12_road_85 rfl hq
      · refine ax_if_neT 25 dX12_road_20 (by decide) (by decide) ?_
        refine ax_iload_n dX12_road_25 rfl ?_
        refine ax_iconst dX12_road_26 (v := nI 3) (by decide) ?_
        refine ax_icmp_geT 39 dX12_road_27 (by decide) (by decide) ?_
        refine ax_iload_n dX12_road_39 rfl ?_
        refine ax_iconst dX12_road_40 (v := nI 3) (by decide) ?_
        refine ax_icmp_neT 55 dX12_road_41 (by decide) (by decide) ?_
        refine ax_iload_n dX12_road_55 rfl ?_
        refine ax_bipush dX12_road_56 (v := nI 6) (by decide) ?_
        refine ax_icmp_geF 72 dX12_road_58 (by decide) (by decide) ?_
        refine ax_aload_n dX12_road_61 rfl ?_
        refine ax_iload_n dX12_road_62 rfl ?_
        refine ax_iload_n dX12_road_63 rfl ?_
        refine ax_iconst dX12_road_64 (v := nI 4) (by decide) ?_
        refine ax_isub dX12_road_65 ?_
        rw [show nI 4 - nI 4 = nI 0 by decide]
        refine ax_cV dX12_road_66 mmX12_mean lkX12_282 miX12_mean msX12_mean (ax_recv_of e145 rfl) rfl rfl (Nat.le_of_ble_eq_true rfl) (Nat.le_of_ble_eq_true rfl) rfl rfl (k_mean (d := d) (w := 0) hr (by omega) hN hO hF hS e145 e151 e159 ⟨_, rfl, ?_⟩)
        refine ax_goto 85 dX12_road_69 (by decide) ?_
        exact ax_ireturn dX12_road_85 rfl hq
      · refine ax_if_neT 25 dX12_road_20 (by decide) (by decide) ?_
        refine ax_iload_n dX12_road_25 rfl ?_
        refine ax_iconst dX12_road_26 (v := nI 3) (by decide) ?_
        refine ax_icmp_geT 39 dX12_road_27 (by decide) (by decide) ?_
        refine ax_iload_n dX12_road_39 rfl ?_
        refine ax_iconst dX12_road_40 (v := nI 3) (by decide) ?_
        refine ax_icmp_neT 55 dX12_road_41 (by decide) (by decide) ?_
        refine ax_iload_n dX12_road_55 rfl ?_
        refine ax_bipush dX12_road_56 (v := nI 6) (by decide) ?_
        refine ax_icmp_geF 72 dX12_road_58 (by decide) (by decide) ?_
        refine ax_aload_n dX12_road_61 rfl ?_
        refine ax_iload_n dX12_road_62 rfl ?_
        refine ax_iload_n dX12_road_63 rfl ?_
        refine ax_iconst dX12_road_64 (v := nI 4) (by decide) ?_
        refine ax_isub dX12_road_65 ?_
        rw [show nI 5 - nI 4 = nI 1 by decide]
        refine ax_cV dX12_road_66 mmX12_mean lkX12_282 miX12_mean msX12_mean (ax_recv_of e145 rfl) rfl rfl (Nat.le_of_ble_eq_true rfl) (Nat.le_of_ble_eq_true rfl) rfl rfl (k_mean (d := d) (w := 1) hr (by omega) hN hO hF hS e145 e151 e159 ⟨_, rfl, ?_⟩)
        refine ax_goto 85 dX12_road_69 (by decide) ?_
        exact ax_ireturn dX12_road_85 rfl hq
      · have hq : Q (.inl (some (.int (if 1000 ≤ σ 1 r then nI 1 else nI 0)))) h1 := hq
        refine ax_if_neT 25 dX12_road_20 (by decide) (by decide) ?_
        refine ax_iload_n dX12_road_25 rfl ?_
        refine ax_iconst dX12_road_26 (v := nI 3) (by decide) ?_
        refine ax_icmp_geT 39 dX12_road_27 (by decide) (by decide) ?_
        refine ax_iload_n dX12_road_39 rfl ?_
        refine ax_iconst dX12_road_40 (v := nI 3) (by decide) ?_
        refine ax_icmp_neT 55 dX12_road_41 (by decide) (by decide) ?_
        refine ax_iload_n dX12_road_55 rfl ?_
        refine ax_bipush dX12_road_56 (v := nI 6) (by decide) ?_
        refine ax_icmp_geT 72 dX12_road_58 (by decide) (by decide) ?_
        refine ax_aload_n dX12_road_72 rfl ?_
        refine ax_iload_n dX12_road_73 rfl ?_
        refine ax_cV dX12_road_74 mmX12_isWorn lkX12_311 miX12_isWorn msX12_isWorn (ax_recv_of e145 rfl) rfl rfl (Nat.le_of_ble_eq_true rfl) (Nat.le_of_ble_eq_true rfl) rfl rfl (k_isWorn (by omega) e145 e159 ⟨_, rfl, ?_⟩)
        rw [hS.2.1 r hr]
        by_cases hc : 1000 ≤ σ 1 r
        · rw [if_pos hc] at hq
          rw [b1_t (nI_nlt hc (by omega))]
          refine ax_if_eqF 84 dX12_road_77 (by decide) (by decide) ?_
          refine ax_iconst dX12_road_80 (v := nI 1) (by decide) ?_
          refine ax_goto 85 dX12_road_81 (by decide) ?_
          exact ax_ireturn dX12_road_85 rfl hq
        · rw [if_neg hc] at hq
          rw [b1_f (fun q => q (nI_lt (by omega) (by omega)))]
          refine ax_if_eqT 84 dX12_road_77 (by decide) rfl ?_
          refine ax_iconst dX12_road_84 (v := nI 0) (by decide) ?_
          exact ax_ireturn dX12_road_85 rfl hq
theorem k_surface {x w : Int32} (hN : nOK N) (hI : MoI h th ta N σ μ) (hq : ∀ h', But h h' moP → MoI h' 0 ta N σ μ → Q (.inl (some (.int (qSurface N σ x w)))) h') : X G (d + 2) mX12_surface 0 (ax_in 3 [.ref 145, .int x, .int w]) [] h Q := by
  obtain ⟨si, pt, fa, co, nm, rd, bc, bm, gg, F, S, O, A, e145, hB⟩ := hI
  refine ax_aload_n dX12_surface_0 rfl ?_
  refine ax_iconst dX12_surface_1 (v := nI 0) (by decide) ?_
  refine ax_putf dX12_surface_2 flX12_1 e145 (Nat.le_of_ble_eq_true rfl) (fun _ => ⟨rfl, rfl⟩) ?_
  refine ax_hp (h1 := ax_wr h 145 (eM 0 ta si pt fa co nm rd 0 0 (-1) (-1) bc bm gg)) rfl ?_
  have hb0 : But h (ax_wr h 145 (eM 0 ta si pt fa co nm rd 0 0 (-1) (-1) bc bm gg)) moP := But.rf.wr (Or.inl rfl)
  have hB := hB.kept (h' := ax_wr h 145 (eM 0 ta si pt fa co nm rd 0 0 (-1) (-1) bc bm gg)) (fun j z1 z2 => ax_wr_ne (by omega))
  have e145 : (ax_wr h 145 (eM 0 ta si pt fa co nm rd 0 0 (-1) (-1) bc bm gg)).2.2 145 = some (eM 0 ta si pt fa co nm rd 0 0 (-1) (-1) bc bm gg) := ax_wr_eq
  generalize ax_wr h 145 (eM 0 ta si pt fa co nm rd 0 0 (-1) (-1) bc bm gg) = h1 at hb0 hB e145 ⊢
  have hI1 : MoI h1 0 ta N σ μ := ⟨si, pt, fa, co, nm, rd, bc, bm, gg, F, S, O, A, e145, hB⟩
  obtain ⟨hF, hFT, hL, hM, hR, hSt, hMk⟩ := id hB
  obtain ⟨e151, e152, e153, e159, a157, a158⟩ := id hM
  obtain ⟨hS, hSc, s7, s8⟩ := id hSt
  obtain ⟨f0, f1, f2, f3, fs, fr⟩ := id hF
  have hS5 := hN.1
  have hP7 := hN.2.1
  have hR10 := hN.2.2.1
  have hT6 := hN.2.2.2.1
  have hq := hq h1 hb0 hI1
  unfold qSurface at hq
  refine ax_aload_n dX12_surface_5 rfl ?_
  refine ax_iload_n dX12_surface_6 rfl ?_
  refine ax_cV dX12_surface_7 mmX12_isRoad lkX12_337 miX12_isRoad msX12_isRoad (ax_recv_of e145 rfl) rfl rfl (Nat.le_of_ble_eq_true rfl) (Nat.le_of_ble_eq_true rfl) rfl rfl (k_isRoad e145 e151 ⟨_, rfl, ?_⟩)
  rw [f2]
  rcases ix_cases (n := nR N) (by omega) x with ⟨hs, hb, -⟩ | ⟨r, hr, rfl, hs, hb⟩
  · rw [hs] at hq
    rw [hb]
    refine ax_if_eqT 37 dX12_surface_10 (by decide) rfl ?_
    refine ax_iconst dX12_surface_37 (v := -1) (by decide) ?_
    exact ax_ireturn dX12_surface_38 rfl hq
  · rw [hs] at hq
    rw [hb]
    refine ax_if_eqF 37 dX12_surface_10 (by decide) (by decide) ?_
    refine ax_aload_n dX12_surface_13 rfl ?_
    refine ax_iload_n dX12_surface_14 rfl ?_
    refine ax_cV dX12_surface_15 mmX12_isStuff lkX12_330 miX12_isStuff msX12_isStuff (ax_recv_of e145 rfl) rfl rfl (Nat.le_of_ble_eq_true rfl) (Nat.le_of_ble_eq_true rfl) rfl rfl (k_isStuff e145 e151 ⟨_, rfl, ?_⟩)
    rw [f0]
    rcases ix_cases (n := nS N) (by omega) w with ⟨hw, hb, -⟩ | ⟨s, hs5, rfl, hw, hb⟩
    · rw [hw] at hq
      rw [hb]
      refine ax_if_eqT 37 dX12_surface_18 (by decide) rfl ?_
      refine ax_iconst dX12_surface_37 (v := -1) (by decide) ?_
      exact ax_ireturn dX12_surface_38 rfl hq
    · rw [hw] at hq
      rw [hb]
      refine ax_if_eqF 37 dX12_surface_18 (by decide) (by decide) ?_
      refine ax_aload_n dX12_surface_21 rfl ?_
      refine ax_getf dX12_surface_22 flX12_99 e145 rfl ?_
      refine ax_bipush dX12_surface_25 (v := nI 11) (by decide) ?_
      refine ax_iconst dX12_surface_27 (v := nI 5) (by decide) ?_
      refine ax_iload_n dX12_surface_28 rfl ?_
      refine ax_imul dX12_surface_29 ?_
      refine ax_iadd dX12_surface_30 ?_
      refine ax_iload_n dX12_surface_31 rfl ?_
      refine ax_iadd dX12_surface_32 ?_
      rw [pk_mul 5 r, nI_add 11 (5 * r), nI_add (11 + 5 * r) s, Nat.add_assoc 11 (5 * r) s]
      refine ax_iald dX12_surface_33 e159 (ax_ix_nI (j := 11 + (5 * r + s)) (by omega) (by decide)) ?_
      rw [hS.2.2.1 (5 * r + s) (by omega)]
      refine ax_goto 38 dX12_surface_34 (by decide) ?_
      exact ax_ireturn dX12_surface_38 rfl hq
theorem k_trade {x w : Int32} (hN : nOK N) (hI : MoI h th ta N σ μ) (hq : ∀ h', But h h' moP → MoI h' 0 ta N σ μ → Q (.inl (some (.int (qTrade N σ x w)))) h') : X G (d + 2) mX12_trade 0 (ax_in 3 [.ref 145, .int x, .int w]) [] h Q := by
  obtain ⟨si, pt, fa, co, nm, rd, bc, bm, gg, F, S, O, A, e145, hB⟩ := hI
  refine ax_aload_n dX12_trade_0 rfl ?_
  refine ax_iconst dX12_trade_1 (v := nI 0) (by decide) ?_
  refine ax_putf dX12_trade_2 flX12_1 e145 (Nat.le_of_ble_eq_true rfl) (fun _ => ⟨rfl, rfl⟩) ?_
  refine ax_hp (h1 := ax_wr h 145 (eM 0 ta si pt fa co nm rd 0 0 (-1) (-1) bc bm gg)) rfl ?_
  have hb0 : But h (ax_wr h 145 (eM 0 ta si pt fa co nm rd 0 0 (-1) (-1) bc bm gg)) moP := But.rf.wr (Or.inl rfl)
  have hB := hB.kept (h' := ax_wr h 145 (eM 0 ta si pt fa co nm rd 0 0 (-1) (-1) bc bm gg)) (fun j z1 z2 => ax_wr_ne (by omega))
  have e145 : (ax_wr h 145 (eM 0 ta si pt fa co nm rd 0 0 (-1) (-1) bc bm gg)).2.2 145 = some (eM 0 ta si pt fa co nm rd 0 0 (-1) (-1) bc bm gg) := ax_wr_eq
  generalize ax_wr h 145 (eM 0 ta si pt fa co nm rd 0 0 (-1) (-1) bc bm gg) = h1 at hb0 hB e145 ⊢
  have hI1 : MoI h1 0 ta N σ μ := ⟨si, pt, fa, co, nm, rd, bc, bm, gg, F, S, O, A, e145, hB⟩
  obtain ⟨hF, hFT, hL, hM, hR, hSt, hMk⟩ := id hB
  obtain ⟨e151, e152, e153, e159, a157, a158⟩ := id hM
  obtain ⟨hS, hSc, s7, s8⟩ := id hSt
  obtain ⟨f0, f1, f2, f3, fs, fr⟩ := id hF
  have hS5 := hN.1
  have hP7 := hN.2.1
  have hR10 := hN.2.2.1
  have hT6 := hN.2.2.2.1
  have hq := hq h1 hb0 hI1
  unfold qTrade at hq
  refine ax_aload_n dX12_trade_5 rfl ?_
  refine ax_iload_n dX12_trade_6 rfl ?_
  refine ax_cV dX12_trade_7 mmX12_isTrade lkX12_340 miX12_isTrade msX12_isTrade (ax_recv_of e145 rfl) rfl rfl (Nat.le_of_ble_eq_true rfl) (Nat.le_of_ble_eq_true rfl) rfl rfl (k_isTrade (Or.inl rfl) e145 e151 ⟨_, rfl, ?_⟩)
  rw [show F 3 + 0 = nI (nT N) by rw [f3]; exact Int32.add_zero _]
  rcases ix_cases (n := nT N) (by omega) x with ⟨hs, hb, -⟩ | ⟨t, ht, rfl, hs, hb⟩
  · rw [hs] at hq
    rw [hb]
    refine ax_if_eqT 22 dX12_trade_10 (by decide) rfl ?_
    refine ax_iconst dX12_trade_22 (v := -1) (by decide) ?_
    exact ax_ireturn dX12_trade_23 rfl hq
  · rw [hs] at hq
    rw [hb]
    refine ax_if_eqF 22 dX12_trade_10 (by decide) (by decide) ?_
    refine ax_iload_n dX12_trade_13 rfl ?_
    refine ax_iconst dX12_trade_14 (v := nI 0) (by decide) ?_
    refine ax_iconst dX12_trade_15 (v := nI 5) (by decide) ?_
    refine ax_cS dX12_trade_16 mmX12_within lkX12_333 mtX12_within rfl rfl (Nat.le_of_ble_eq_true rfl) (Nat.le_of_ble_eq_true rfl) rfl rfl (k_within ⟨_, rfl, ?_⟩)
    rcases wi_cases (b := 5) (by decide) w with ⟨hw, hb⟩ | ⟨j, hj, rfl, hw, hb⟩
    · rw [hw] at hq
      rw [hb]
      refine ax_if_neF 24 dX12_trade_19 (by decide) rfl ?_
      refine ax_iconst dX12_trade_22 (v := -1) (by decide) ?_
      exact ax_ireturn dX12_trade_23 rfl hq
    · rw [hw] at hq
      rw [hb]
      rcases (show j = 0 ∨ j = 1 ∨ j = 2 ∨ j = 3 ∨ j = 4 ∨ j = 5 by omega) with rfl | rfl | rfl | rfl | rfl | rfl
      · refine ax_if_neT 24 dX12_trade_19 (by decide) (by decide) ?_
        refine ax_iload_n dX12_trade_24 rfl ?_
        refine ax_iconst dX12_trade_25 (v := nI 4) (by decide) ?_
        refine ax_icmp_geF 38 dX12_trade_26 (by decide) (by decide) ?_
        refine ax_aload_n dX12_trade_29 rfl ?_
        refine ax_iload_n dX12_trade_30 rfl ?_
        refine ax_iload_n dX12_trade_31 rfl ?_
        refine ax_cV dX12_trade_32 mmX12_tradeOf lkX12_294 miX12_tradeOf msX12_tradeOf (ax_recv_of e145 rfl) rfl rfl (Nat.le_of_ble_eq_true rfl) (Nat.le_of_ble_eq_true rfl) rfl rfl (k_tradeOf (i := 0) (by omega) (by omega) e145 e151 ⟨_, rfl, ?_⟩)
        rw [hFT.td t ht 0 (by omega)]
        refine ax_goto 64 dX12_trade_35 (by decide) ?_
        exact ax_ireturn dX12_trade_64 rfl hq
      · refine ax_if_neT 24 dX12_trade_19 (by decide) (by decide) ?_
        refine ax_iload_n dX12_trade_24 rfl ?_
        refine ax_iconst dX12_trade_25 (v := nI 4) (by decide) ?_
        refine ax_icmp_geF 38 dX12_trade_26 (by decide) (by decide) ?_
        refine ax_aload_n dX12_trade_29 rfl ?_
        refine ax_iload_n dX12_trade_30 rfl ?_
        refine ax_iload_n dX12_trade_31 rfl ?_
        refine ax_cV dX12_trade_32 mmX12_tradeOf lkX12_294 miX12_tradeOf msX12_tradeOf (ax_recv_of e145 rfl) rfl rfl (Nat.le_of_ble_eq_true rfl) (Nat.le_of_ble_eq_true rfl) rfl rfl (k_tradeOf (i := 1) (by omega) (by omega) e145 e151 ⟨_, rfl, ?_⟩)
        rw [hFT.td t ht 1 (by omega)]
        refine ax_goto 64 dX12_trade_35 (by decide) ?_
        exact ax_ireturn dX12_trade_64 rfl hq
      · refine ax_if_neT 24 dX12_trade_19 (by decide) (by decide) ?_
        refine ax_iload_n dX12_trade_24 rfl ?_
        refine ax_iconst dX12_trade_25 (v := nI 4) (by decide) ?_
        refine ax_icmp_geF 38 dX12_trade_26 (by decide) (by decide) ?_
        refine ax_aload_n dX12_trade_29 rfl ?_
        refine ax_iload_n dX12_trade_30 rfl ?_
        refine ax_iload_n dX12_trade_31 rfl ?_
        refine ax_cV dX12_trade_32 mmX12_tradeOf lkX12_294 miX12_tradeOf msX12_tradeOf (ax_recv_of e145 rfl) rfl rfl (Nat.le_of_ble_eq_true rfl) (Nat.le_of_ble_eq_true rfl) rfl rfl (k_tradeOf (i := 2) (by omega) (by omega) e145 e151 ⟨_, rfl, ?_⟩)
        rw [hFT.td t ht 2 (by omega)]
        refine ax_goto 64 dX12_trade_35 (by decide) ?_
        exact ax_ireturn dX12_trade_64 rfl hq
      · refine ax_if_neT 24 dX12_trade_19 (by decide) (by decide) ?_
        refine ax_iload_n dX12_trade_24 rfl ?_
        refine ax_iconst dX12_trade_25 (v := nI 4) (by decide) ?_
        refine ax_icmp_geF 38 dX12_trade_26 (by decide) (by decide) ?_
        refine ax_aload_n dX12_trade_29 rfl ?_
        refine ax_iload_n dX12_trade_30 rfl ?_
        refine ax_iload_n dX12_trade_31 rfl ?_
        refine ax_cV dX12_trade_32 mmX12_tradeOf lkX12_294 miX12_tradeOf msX12_tradeOf (ax_recv_of e145 rfl) rfl rfl (Nat.le_of_ble_eq_true rfl) (Nat.le_of_ble_eq_true rfl) rfl rfl (k_tradeOf (i := 3) (by omega) (by omega) e145 e151 ⟨_, rfl, ?_⟩)
        rw [hFT.td t ht 3 (by omega)]
        refine ax_goto 64 dX12_trade_35 (by decide) ?_
        exact ax_ireturn dX12_trade_64 rfl hq
      · refine ax_if_neT 24 dX12_trade_19 (by decide) (by decide) ?_
        refine ax_iload_n dX12_trade_24 rfl ?_
        refine ax_iconst dX12_trade_25 (v := nI 4) (by decide) ?_
        refine ax_icmp_geT 38 dX12_trade_26 (by decide) (by decide) ?_
        refine ax_iload_n dX12_trade_38 rfl ?_
        refine ax_iconst dX12_trade_39 (v := nI 4) (by decide) ?_
        refine ax_icmp_neF 55 dX12_trade_40 (by decide) rfl ?_
        refine ax_aload_n dX12_trade_43 rfl ?_
        refine ax_getf dX12_trade_44 flX12_99 e145 rfl ?_
        refine ax_bipush dX12_trade_47 (v := nI 111) (by decide) ?_
        refine ax_iload_n dX12_trade_49 rfl ?_
        refine ax_iadd dX12_trade_50 ?_
        rw [nI_add 111 t]
        refine ax_iald dX12_trade_51 e159 (ax_ix_nI (j := 111 + t) (by omega) (by decide)) ?_
        rw [hSc.1 t (by omega)]
        refine ax_goto 64 dX12_trade_52 (by decide) ?_
        exact ax_ireturn dX12_trade_64 rfl hq
      · refine ax_if_neT 24 dX12_trade_19 (by decide) (by decide) ?_
        refine ax_iload_n dX12_trade_24 rfl ?_
        refine ax_iconst dX12_trade_25 (v := nI 4) (by decide) ?_
        refine ax_icmp_geT 38 dX12_trade_26 (by decide) (by decide) ?_
        refine ax_iload_n dX12_trade_38 rfl ?_
        refine ax_iconst dX12_trade_39 (v := nI 4) (by decide) ?_
        refine ax_icmp_neT 55 dX12_trade_40 (by decide) (by decide) ?_
        refine ax_aload_n dX12_trade_55 rfl ?_
        refine ax_getf dX12_trade_56 flX12_99 e145 rfl ?_
        refine ax_bipush dX12_trade_59 (v := nI 117) (by decide) ?_
        refine ax_iload_n dX12_trade_61 rfl ?_
        refine ax_iadd dX12_trade_62 ?_
        rw [nI_add 117 t]
        refine ax_iald dX12_trade_63 e159 (ax_ix_nI (j := 117 + t) (by omega) (by decide)) ?_
        rw [hSc.2.1 t (by omega)]
        exact ax_ireturn dX12_trade_64 rfl hq
theorem k_shock {x w : Int32} (hN : nOK N) (hO : sOK N σ) (hI : MoI h th ta N σ μ) (hq : ∀ h', But h h' moP → MoI h' 0 ta N σ μ → Q (.inl (some (.int (qShock N σ x w)))) h') : X G (d + 4) mX12_shock 0 (ax_in 3 [.ref 145, .int x, .int w]) [] h Q := by
  obtain ⟨si, pt, fa, co, nm, rd, bc, bm, gg, F, S, O, A, e145, hB⟩ := hI
  refine ax_aload_n dX12_shock_0 rfl ?_
  refine ax_iconst dX12_shock_1 (v := nI 0) (by decide) ?_
  refine ax_putf dX12_shock_2 flX12_1 e145 (Nat.le_of_ble_eq_true rfl) (fun _ => ⟨rfl, rfl⟩) ?_
  refine ax_hp (h1 := ax_wr h 145 (eM 0 ta si pt fa co nm rd 0 0 (-1) (-1) bc bm gg)) rfl ?_
  have hb0 : But h (ax_wr h 145 (eM 0 ta si pt fa co nm rd 0 0 (-1) (-1) bc bm gg)) moP := But.rf.wr (Or.inl rfl)
  have hB := hB.kept (h' := ax_wr h 145 (eM 0 ta si pt fa co nm rd 0 0 (-1) (-1) bc bm gg)) (fun j z1 z2 => ax_wr_ne (by omega))
  have e145 : (ax_wr h 145 (eM 0 ta si pt fa co nm rd 0 0 (-1) (-1) bc bm gg)).2.2 145 = some (eM 0 ta si pt fa co nm rd 0 0 (-1) (-1) bc bm gg) := ax_wr_eq
  generalize ax_wr h 145 (eM 0 ta si pt fa co nm rd 0 0 (-1) (-1) bc bm gg) = h1 at hb0 hB e145 ⊢
  have hI1 : MoI h1 0 ta N σ μ := ⟨si, pt, fa, co, nm, rd, bc, bm, gg, F, S, O, A, e145, hB⟩
  obtain ⟨hF, hFT, hL, hM, hR, hSt, hMk⟩ := id hB
  obtain ⟨e151, e152, e153, e159, a157, a158⟩ := id hM
  obtain ⟨hS, hSc, s7, s8⟩ := id hSt
  obtain ⟨f0, f1, f2, f3, fs, fr⟩ := id hF
  have hS5 := hN.1
  have hP7 := hN.2.1
  have hR10 := hN.2.2.1
  have hT6 := hN.2.2.2.1
  unfold qShock at hq
  refine ax_aload_n dX12_shock_5 rfl ?_
  refine ax_iload_n dX12_shock_6 rfl ?_
  refine ax_cV dX12_shock_7 mmX12_isRoad lkX12_337 miX12_isRoad msX12_isRoad (ax_recv_of e145 rfl) rfl rfl (Nat.le_of_ble_eq_true rfl) (Nat.le_of_ble_eq_true rfl) rfl rfl (k_isRoad e145 e151 ⟨_, rfl, ?_⟩)
  rw [f2]
  rcases ix_cases (n := nR N) (by omega) x with ⟨hs, hb, -⟩ | ⟨r, hr, rfl, hs, hb⟩
  · rw [hs] at hq
    rw [hb]
    refine ax_if_eqT 30 dX12_shock_10 (by decide) rfl ?_
    refine ax_iconst dX12_shock_30 (v := -1) (by decide) ?_
    exact ax_ireturn dX12_shock_31 rfl (hq h1 hb0 hI1)
  · rw [hs] at hq
    rw [hb]
    refine ax_if_eqF 30 dX12_shock_10 (by decide) (by decide) ?_
    refine ax_aload_n dX12_shock_13 rfl ?_
    refine ax_iload_n dX12_shock_14 rfl ?_
    refine ax_cV dX12_shock_15 mmX12_isStuff lkX12_330 miX12_isStuff msX12_isStuff (ax_recv_of e145 rfl) rfl rfl (Nat.le_of_ble_eq_true rfl) (Nat.le_of_ble_eq_true rfl) rfl rfl (k_isStuff e145 e151 ⟨_, rfl, ?_⟩)
    rw [f0]
    rcases ix_cases (n := nS N) (by omega) w with ⟨hw, hb, -⟩ | ⟨s, hs5, rfl, hw, hb⟩
    · rw [hw] at hq
      rw [hb]
      refine ax_if_eqT 30 dX12_shock_18 (by decide) rfl ?_
      refine ax_iconst dX12_shock_30 (v := -1) (by decide) ?_
      exact ax_ireturn dX12_shock_31 rfl (hq h1 hb0 hI1)
    · rw [hw] at hq
      rw [hb]
      refine ax_if_eqF 30 dX12_shock_18 (by decide) (by decide) ?_
      refine ax_aload_n dX12_shock_21 rfl ?_
      refine ax_iload_n dX12_shock_22 rfl ?_
      refine ax_iload_n dX12_shock_23 rfl ?_
      refine ax_cV dX12_shock_24 mmX12_shockOf lkX12_323 miX12_shockOf msX12_shockOf (ax_recv_of e145 rfl) rfl rfl (Nat.le_of_ble_eq_true rfl) (Nat.le_of_ble_eq_true rfl) rfl rfl (k_shockOf (d := d) hr hs5 hN hO hF hL hS hM e145 (fun h2 hb2 hM2 => ⟨_, rfl, ?_⟩))
      refine ax_goto 31 dX12_shock_27 (by decide) ?_
      exact ax_ireturn dX12_shock_31 rfl (hq h2 (hb0.tr (hb2.wide (fun j z => by unfold mfP at z; unfold moP; omega))) ⟨si, pt, fa, co, nm, rd, bc, bm, gg, F, S, O, A, (hb2.2.2 145 (by unfold mfP; omega)).trans e145, hB.mf hb2 hM2⟩)
end MB1
