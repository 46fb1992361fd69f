section MBA
variable {G : ax_G} {d : Nat} {h : ax_H} {Q : ax_O → ax_H → Prop} {N : Nt} {σ τ : Sd} {μ : Nat → Option Sd} {th ta : Int32}
theorem k_draw {x m : Nat} {si pt fa co nm rd ask nw os sw bc bm : Int32} (hx : x < 2147483648) (hm : 0 < m) (hm1 : m < 2 ^ 31) (e145 : h.2.2 145 = some (eM th ta si pt fa co nm rd ask nw os sw bc bm (lN x))) (hq : Q (.inl (some (.int (nI (dw x / 65536 % m))))) (ax_wr h 145 (eM th ta si pt fa co nm rd ask nw os sw bc bm (lN (dw x))))) : X G d mX12_draw 0 (ax_in 2 [.ref 145, .int (nI m)]) [] h Q := by
  have hb := dw_lt x
  refine ax_aload_n dX12_draw_0 rfl ?_
  refine ax_aload_n dX12_draw_1 rfl ?_
  refine ax_getf dX12_draw_2 flX12_372 e145 rfl ?_
  refine ax_ldc2 dX12_draw_5 cnX12_376 ?_
  refine ax_lmul dX12_draw_8 ?_
  refine ax_ldc2 dX12_draw_9 cnX12_378 ?_
  refine ax_ladd dX12_draw_12 ?_
  refine ax_ldc2 dX12_draw_13 cnX12_380 ?_
  rw [show (1103515245 : Int64) = lN 1103515245 from by decide, show (12345 : Int64) = lN 12345 from by decide, show (2147483648 : Int64) = lN 2147483648 from by decide, lN_mul, lN_add]
  refine ax_lrem dX12_draw_16 (by decide) ?_
  refine ax_topl (pk_lRem (by omega) (by omega) (by omega)) ?_
  refine ax_putf dX12_draw_17 flX12_372 e145 (Nat.le_of_ble_eq_true rfl) (fun _ => ⟨rfl, rfl⟩) ?_
  refine ax_aload_n dX12_draw_20 rfl ?_
  refine ax_getf dX12_draw_21 flX12_372 ax_wr_eq rfl ?_
  refine ax_ldc2 dX12_draw_24 cnX12_382 ?_
  rw [show (65536 : Int64) = lN 65536 from by decide]
  refine ax_ldiv dX12_draw_27 (by decide) ?_
  refine ax_topl (pk_lDiv (by show dw x < _; omega) (by omega) (by omega)) ?_
  refine ax_iload_n dX12_draw_28 rfl ?_
  refine ax_i2l dX12_draw_29 ?_
  rw [nI_l hm1]
  refine ax_lrem dX12_draw_30 (fun e => by have := (pk_lEQ (a := m) (b := 0) (by omega) (by omega)).mp e; omega) ?_
  refine ax_topl (pk_lRem (by show dw x / 65536 < _; omega) (by omega) (by omega)) ?_
  refine ax_l2i dX12_draw_31 ?_
  refine ax_topi (lN_i _) ?_
  exact ax_ireturn dX12_draw_32 rfl hq
theorem rg_cases {a b : Nat} (hb : b < 2 ^ 30) (ha : a ≤ b) (x : Int32) : (rng a b x = none ∧ b1 (¬ x < nI a ∧ ¬ nI b < x) = 0) ∨ ∃ n, a ≤ n ∧ n ≤ b ∧ x = nI n ∧ rng a b x = some n ∧ b1 (¬ x < nI a ∧ ¬ nI b < x) = 1 := by
  rcases rng_cases hb ha x with ⟨h1, h2⟩ | ⟨n, h1, h2, rfl, h3⟩
  · refine Or.inl ⟨h1, b1_f (fun q => ?_)⟩
    rcases h2 with z | z
    · exact q.1 z
    · exact q.2 z.2
  · exact Or.inr ⟨n, h1, h2, rfl, h3, b1_t ⟨nI_nlt h1 (by omega), nI_nlt h2 (by omega)⟩⟩
theorem TrI.kept {h' : ax_H} {S0 S F O A : Nat → Int32} (a : TrI h S0 S F O A N τ) (hk : ∀ j, j ≠ 145 → h'.2.2 j = h.2.2 j) : TrI h' S0 S F O A N τ := by
  obtain ⟨hM, hR, hS, hSc, t1', t2'⟩ := a
  exact ⟨hM.kept (fun j z1 z2 => hk j (by omega)), hR.kept (fun j z1 z2 => hk j (by omega)), hS, hSc, t1', t2'⟩
theorem tf_came {tr : Nat → Nat → Nat} : ∀ i, (∀ t, t < i → tr 3 t ≤ 999) → (tf N τ tr i).2.2.2.2.2 = sm (fun t => (tf N τ tr i).2.2.2.1 t - 1) i ∧ ∀ t, t < i → (tf N τ tr i).2.2.2.1 t ≤ 1000
  | 0, _ => ⟨rfl, fun t ht => absurd ht (Nat.not_lt_zero _)⟩
  | i + 1, hl => by
    obtain ⟨i1, i2⟩ := tf_came i (fun t ht => hl t (by omega))
    show (t1 N τ tr i (tf N τ tr i)).2.2.2.2.2 = sm (fun t => (t1 N τ tr i (tf N τ tr i)).2.2.2.1 t - 1) (i + 1) ∧ ∀ t, t < i + 1 → (t1 N τ tr i (tf N τ tr i)).2.2.2.1 t ≤ 1000
    have key : ∀ v : Nat, sm (fun t => upN (tf N τ tr i).2.2.2.1 i v t - 1) (i + 1) = (tf N τ tr i).2.2.2.2.2 + (v - 1) := fun v => by
      show sm (fun t => upN (tf N τ tr i).2.2.2.1 i v t - 1) i + (upN (tf N τ tr i).2.2.2.1 i v i - 1) = _
      rw [sm_cong (g := fun t => (tf N τ tr i).2.2.2.1 t - 1) (fun t ht => by rw [upN_at, if_neg (by omega)]), ← i1, upN_at, if_pos rfl]
    unfold t1
    by_cases hc : (wy N (pv N τ (tr 3 i)) (tr 0 i) (tr 1 i)).2 = some (tr 1 i)
    · rw [if_pos hc]
      have hle := cr_le (N := N) (σ := τ) (s := tr 2 i) (wy N (pv N τ (tr 3 i)) (tr 0 i) (tr 1 i)).1 (tr 3 i) (tf N τ tr i).1 (tf N τ tr i).2.1
      have h9 := hl i (by omega)
      refine ⟨?_, fun t ht => ?_⟩
      · show (tf N τ tr i).2.2.2.2.2 + (cr N τ (tr 2 i) (wy N (pv N τ (tr 3 i)) (tr 0 i) (tr 1 i)).1 (tr 3 i) (tf N τ tr i).1 (tf N τ tr i).2.1).1 = sm (fun t => upN (tf N τ tr i).2.2.2.1 i ((cr N τ (tr 2 i) (wy N (pv N τ (tr 3 i)) (tr 0 i) (tr 1 i)).1 (tr 3 i) (tf N τ tr i).1 (tf N τ tr i).2.1).1 + 1) t - 1) (i + 1)
        rw [key, Nat.add_sub_cancel]
      · show upN (tf N τ tr i).2.2.2.1 i _ t ≤ 1000
        rw [upN_at]
        split
        · omega
        · exact i2 t (by omega)
    · rw [if_neg hc]
      refine ⟨?_, fun t ht => ?_⟩
      · show (tf N τ tr i).2.2.2.2.2 = sm (fun t => upN (tf N τ tr i).2.2.2.1 i 0 t - 1) (i + 1)
        rw [key]
        rfl
      · show upN (tf N τ tr i).2.2.2.1 i 0 t ≤ 1000
        rw [upN_at]
        split
        · omega
        · exact i2 t (by omega)
theorem TrI.war {h' : ax_H} {S0 S F O A : Nat → Int32} {r v : Nat} (hN : nOK N) (a : TrI h S0 S F O A N τ) (hr : r < nR N) (hk : ∀ j, j ≠ 145 → j ≠ 159 → h'.2.2 j = h.2.2 j) (e : h'.2.2 159 = some (eI 12840 (upd S (1 + r) (nI (τ 1 r + v))))) : TrI h' S0 (upd S (1 + r) (nI (τ 1 r + v))) F O A N (warS τ r v) := by
  obtain ⟨hM, hR, hS, hSc, t1', t2'⟩ := a
  have := hN.2.2.1
  have lo : ∀ j, j ≠ 1 + r → upd S (1 + r) (nI (τ 1 r + v)) j = S j := fun j hj => pk_un hj
  refine ⟨hM.st (fun j z1 z2 => hk j (by omega) (by omega)) e, hR.kept (fun j z1 z2 => hk j (by omega) (by omega)), ⟨(lo 0 (by omega)).trans hS.1, fun q hq => ?_, fun c hc => (lo _ (by omega)).trans (hS.2.2.1 c hc), fun c hc => (lo _ (by omega)).trans (hS.2.2.2 c hc)⟩, hSc.kept hN.1 (fun j z1 z2 => lo j (by omega)), fun j z1 z2 => (lo j (by omega)).trans (t1' j z1 z2), fun j hj => (lo _ (by omega)).trans (t2' j hj)⟩
  show upd S (1 + r) (nI (τ 1 r + v)) (1 + q) = nI (if q = r then τ 1 q + v else τ 1 q)
  by_cases hc : q = r
  · rw [hc, pk_us, if_pos rfl]
  · rw [lo _ (by omega), if_neg hc]
    exact hS.2.1 q hq
theorem k_wars {x u v w : Int32} {b y : Nat} (hN : nOK N) (hB0 : Bd N σ b y) (hb0' : 5300 ≤ b) (hb1' : b ≤ 7000) (hy : y + 50 ≤ 28000) (hI : MoI h th ta N σ μ) (hq : ∀ h', But h h' moP → MoI h' 0 ta N σ μ → Q (.inl (some (.int (qWars N σ x u v w)))) h') : X G (d + 13) mX12_wars 0 (ax_in 12 [.ref 145, .int x, .int u, .int v, .int w]) [] h Q := by
  obtain ⟨si, pt, fa, co, nm, rd, bc, bm, gg, F, S, O, A, e145, hB⟩ := hI
  refine ax_aload_n dX12_wars_0 rfl ?_
  refine ax_iconst dX12_wars_1 (v := nI 0) (by decide) ?_
  refine ax_putf dX12_wars_2 flX12_1 e145 (Nat.le_of_ble_eq_true rfl) (fun _ => ⟨rfl, rfl⟩) ?_
  refine ax_hp (h1 := ax_wr h 145 (eM 0 ta si pt fa co nm rd 0 0 (-1) (-1) bc bm gg)) rfl ?_
  have hb0 : But h (ax_wr h 145 (eM 0 ta si pt fa co nm rd 0 0 (-1) (-1) bc bm gg)) moP := But.rf.wr (Or.inl rfl)
  have hB := hB.kept (h' := ax_wr h 145 (eM 0 ta si pt fa co nm rd 0 0 (-1) (-1) bc bm gg)) (fun j z1 z2 => ax_wr_ne (by omega))
  have e145 : (ax_wr h 145 (eM 0 ta si pt fa co nm rd 0 0 (-1) (-1) bc bm gg)).2.2 145 = some (eM 0 ta si pt fa co nm rd 0 0 (-1) (-1) bc bm gg) := ax_wr_eq
  generalize ax_wr h 145 (eM 0 ta si pt fa co nm rd 0 0 (-1) (-1) bc bm gg) = h1 at hb0 hB e145 ⊢
  have hI1 : MoI h1 0 ta N σ μ := ⟨si, pt, fa, co, nm, rd, bc, bm, gg, F, S, O, A, e145, hB⟩
  obtain ⟨hF, hFT, hL, hM, hR, hSt, hMk⟩ := id hB
  obtain ⟨e151, e152, e153, e159, a157, a158⟩ := id hM
  obtain ⟨hS, hSc, s7, s8⟩ := id hSt
  obtain ⟨f0, f1, f2, f3, fs, fr⟩ := id hF
  have hS5 := hN.1
  have hP7 := hN.2.1
  have hR10 := hN.2.2.1
  have hT6 := hN.2.2.2.1
  have hT0 : F 3 + 0 = nI (nT N) := by rw [f3]; exact Int32.add_zero _
  have hq1 := hq h1 hb0 hI1
  have bad : qWars N σ x u v w = -1 → X G (d + 13) mX12_wars 50 [some (.ref 145), some (.int x), some (.int u), some (.int v), some (.int w), none, none, none, none, none, none, none] [] h1 Q := fun z => by
    rw [z] at hq1
    refine ax_iconst dX12_wars_50 (v := -1) (by decide) ?_
    exact ax_ireturn dX12_wars_51 rfl hq1
  unfold qWars at bad
  refine ax_iload_n dX12_wars_5 rfl ?_
  refine ax_iconst dX12_wars_6 (v := nI 0) (by decide) ?_
  refine ax_sipush dX12_wars_7 (v := nI 9999) (by decide) ?_
  refine ax_cS dX12_wars_10 mmX12_within lkX12_333 mtX12_within rfl rfl (Nat.le_of_ble_eq_true rfl) (Nat.le_of_ble_eq_true rfl) rfl rfl (k_within ⟨_, rfl, ?_⟩)
  rcases rg_cases (a := 0) (b := 9999) (by decide) (by decide) x with ⟨hx, hb⟩ | ⟨sd, hsd0, hsd, rfl, hx, hb⟩
  · rw [hb]
    refine ax_if_eqT 50 dX12_wars_13 (by decide) rfl ?_
    exact bad (by rw [hx])
  rw [hb]
  refine ax_if_eqF 50 dX12_wars_13 (by decide) (by decide) ?_
  refine ax_iload_n dX12_wars_16 rfl ?_
  refine ax_iconst dX12_wars_17 (v := nI 1) (by decide) ?_
  refine ax_bipush dX12_wars_18 (v := nI 20) (by decide) ?_
  refine ax_cS dX12_wars_20 mmX12_within lkX12_333 mtX12_within rfl rfl (Nat.le_of_ble_eq_true rfl) (Nat.le_of_ble_eq_true rfl) rfl rfl (k_within ⟨_, rfl, ?_⟩)
  rcases rg_cases (a := 1) (b := 20) (by decide) (by decide) u with ⟨hu, hb⟩ | ⟨k, hk0, hk20, rfl, hu, hb⟩
  · rw [hb]
    refine ax_if_eqT 50 dX12_wars_23 (by decide) rfl ?_
    exact bad (by rw [hx, hu])
  rw [hb]
  refine ax_if_eqF 50 dX12_wars_23 (by decide) (by decide) ?_
  refine ax_iload_n dX12_wars_26 rfl ?_
  refine ax_cS dX12_wars_27 mmX12_areYears lkX12_343 mtX12_areYears rfl rfl (Nat.le_of_ble_eq_true rfl) (Nat.le_of_ble_eq_true rfl) rfl rfl (k_areYears ⟨_, rfl, ?_⟩)
  rcases yrs_cases v with ⟨hv, hb⟩ | ⟨n, hn1, hn50, rfl, hv, hb⟩
  · rw [hb]
    refine ax_if_eqT 50 dX12_wars_30 (by decide) rfl ?_
    exact bad (by rw [hx, hu, hv])
  rw [hb]
  refine ax_if_eqF 50 dX12_wars_30 (by decide) (by decide) ?_
  refine ax_iload dX12_wars_33 rfl ?_
  refine ax_iconst dX12_wars_35 (v := nI 0) (by decide) ?_
  refine ax_iconst dX12_wars_36 (v := nI 1) (by decide) ?_
  refine ax_cS dX12_wars_37 mmX12_within lkX12_333 mtX12_within rfl rfl (Nat.le_of_ble_eq_true rfl) (Nat.le_of_ble_eq_true rfl) rfl rfl (k_within ⟨_, rfl, ?_⟩)
  rcases wi_cases (b := 1) (by decide) w with ⟨hw, hb⟩ | ⟨j, hj, rfl, hw, hb⟩
  · rw [hb]
    refine ax_if_eqT 50 dX12_wars_40 (by decide) rfl ?_
    exact bad (by rw [hx, hu, hv, hw])
  rw [hb]
  refine ax_if_eqF 50 dX12_wars_40 (by decide) (by decide) ?_
  refine ax_aload_n dX12_wars_43 rfl ?_
  refine ax_cV dX12_wars_44 mmX12_roads lkX12_194 miX12_roads msX12_roads (ax_recv_of e145 rfl) rfl rfl (Nat.le_of_ble_eq_true rfl) (Nat.le_of_ble_eq_true rfl) rfl rfl (k_roads e145 e151 ⟨_, rfl, ?_⟩)
  rw [f2]
  by_cases hR0 : nR N = 0
  · refine ax_if_neF 52 dX12_wars_47 (by decide) (by rw [hR0]; rfl) ?_
    exact bad (by rw [hx, hu, hv, hw]; exact if_pos hR0)
  unfold qWars at hq
  rw [hx, hu, hv, hw] at hq
  dsimp only at hq
  simp only [if_neg hR0] at hq
  have outer : ∀ (m k' : Nat) (bc bm : Int32) (S2 : Nat → Int32) (o8 o9 o10 o11 : Option Value) (h2 : ax_H), k' + m = k → But h1 h2 psP → h2.2.2 145 = some (eM 0 ta si pt fa co nm rd 0 0 (-1) (-1) bc bm (lN (wz N σ n sd k').1)) → MoB h2 F S2 O A N σ μ → X G (d + 13) mX12_wars 67 [some (.ref 145), some (.int (nI sd)), some (.int (nI k)), some (.int (nI n)), some (.int (nI j)), some (.int (nI (wz N σ n sd k').2.1)), some (.int (nI (wz N σ n sd k').2.2)), some (.int (nI k')), o8, o9, o10, o11] [] h2 Q := by
    intro m
    induction m with
    | zero =>
      intro k' bc bm S2 o8 o9 o10 o11 h2 hk' hbb e145 hB2
      obtain rfl : k' = k := by omega
      have hq2 := hq h2 (hb0.tr (hbb.wide (fun j z => by unfold psP at z; unfold moP; omega))) ⟨si, pt, fa, co, nm, rd, bc, bm, _, F, S2, O, A, e145, hB2⟩
      refine ax_iload dX12_wars_67 rfl ?_
      refine ax_iload_n dX12_wars_69 rfl ?_
      refine ax_icmp_geT 227 dX12_wars_70 (by decide) (Int32.le_refl _) ?_
      by_cases hj0 : j = 0
      · rw [if_pos hj0] at hq2
        refine ax_iload dX12_wars_227 rfl ?_
        refine ax_if_neF 237 dX12_wars_229 (by decide +kernel) (by rw [hj0]; rfl) ?_
        refine ax_iload dX12_wars_232 rfl ?_
        refine ax_goto 239 dX12_wars_234 (by decide +kernel) ?_
        exact ax_ireturn dX12_wars_239 rfl hq2
      · rw [if_neg hj0] at hq2
        refine ax_iload dX12_wars_227 rfl ?_
        refine ax_if_neT 237 dX12_wars_229 (by decide +kernel) (nI_ne0 (by omega) (by omega)) ?_
        refine ax_iload dX12_wars_237 rfl ?_
        exact ax_ireturn dX12_wars_239 rfl hq2
    | succ m ih =>
      intro k' bc bm S2 o8 o9 o10 o11 h2 hk' hbb e145 hB2
      obtain ⟨-, -, -, hM2, hR2, hSt2, hMk2⟩ := id hB2
      have hstep : wz N σ n sd (k' + 1) = ((wN N (trN N) (nT N) ((wz N σ n sd k').1, σ, 0) n).1, (wz N σ n sd k').2.1 + (if wR N (wN N (trN N) (nT N) ((wz N σ n sd k').1, σ, 0) n).2.1 = 0 then 1 else 0), (wz N σ n sd k').2.2 + (wN N (trN N) (nT N) ((wz N σ n sd k').1, σ, 0) n).2.2) := rfl
      have ih1 := ih (k' + 1)
      rw [hstep] at ih1
      have hx0 := wz_x (N := N) (σ := σ) (n := n) (x := sd) (by omega) k'
      generalize hA0 : wz N σ n sd k' = a0 at *
      have inner : ∀ (m i : Nat) (bc bm : Int32) (S3 : Nat → Int32) (o9 o10 o11 : Option Value) (h3 : ax_H), i + m = n → But h2 h3 psP → h3.2.2 145 = some (eM 0 ta si pt fa co nm rd 1 0 (-1) (-1) bc bm (lN (wN N (trN N) (nT N) (a0.1, σ, 0) i).1)) → TrI h3 S2 S3 F O A N (wN N (trN N) (nT N) (a0.1, σ, 0) i).2.1 → X G (d + 13) mX12_wars 80 [some (.ref 145), some (.int (nI sd)), some (.int (nI k)), some (.int (nI n)), some (.int (nI j)), some (.int (nI a0.2.1)), some (.int (nI (a0.2.2 + (wN N (trN N) (nT N) (a0.1, σ, 0) i).2.2))), some (.int (nI k')), some (.int (nI i)), o9, o10, o11] [] h3 Q := by
        intro m2
        induction m2 with
        | zero =>
          intro i bc bm S3 o9 o10 o11 h3 hi hb3 e145 hI3
          obtain rfl : i = n := by omega
          have hBn := hB0.wars (x := a0.1) (c := 0) hN hN.tr hb0' i
          have hwr := wR_le N (wN N (trN N) (nT N) (a0.1, σ, 0) i).2.1
          refine ax_iload dX12_wars_80 rfl ?_
          refine ax_iload_n dX12_wars_82 rfl ?_
          refine ax_icmp_geT 200 dX12_wars_83 (by decide) (Int32.le_refl _) ?_
          refine ax_iload dX12_wars_200 rfl ?_
          refine ax_aload_n dX12_wars_202 rfl ?_
          refine ax_cV dX12_wars_203 mmX12_worn lkX12_387 miX12_worn msX12_worn (ax_recv_of e145 rfl) rfl rfl (Nat.le_of_ble_eq_true rfl) (Nat.le_of_ble_eq_true rfl) rfl rfl (k_worn (d := d + 11) hN (fun r hr => by have := hBn.1 r hr; omega) hF hI3.2.2.1 e145 hI3.1.1 hI3.1.2.2.2.1 ⟨_, rfl, ?_⟩)
          have nx : ∀ z : Nat, z = (if wR N (wN N (trN N) (nT N) (a0.1, σ, 0) i).2.1 = 0 then 1 else 0) → X G (d + 13) mX12_wars 214 [some (.ref 145), some (.int (nI sd)), some (.int (nI k)), some (.int (nI i)), some (.int (nI j)), some (.int (nI a0.2.1)), some (.int (nI (a0.2.2 + (wN N (trN N) (nT N) (a0.1, σ, 0) i).2.2))), some (.int (nI k')), some (.int (nI i)), o9, o10, o11] [.int (nI z), .int (nI a0.2.1)] h3 Q := by
            intro z hz
            refine ax_iadd dX12_wars_214 ?_
            refine ax_istore dX12_wars_215 (Nat.le_of_ble_eq_true rfl) ?_
            rw [nI_add a0.2.1 z]
            refine ax_aload_n dX12_wars_217 rfl ?_
            refine ax_cV dX12_wars_218 mmX12_back lkX12_352 miX12_back msX12_back (ax_recv_of e145 rfl) rfl rfl (Nat.le_of_ble_eq_true rfl) (Nat.le_of_ble_eq_true rfl) rfl rfl (k_back (d := d + 11) hI3 e145 (fun h4 S4 hb4 e4 hM4 hR4 hlo4 => ⟨_, rfl, ?_⟩))
            have hb5 : But h2 h4 psP := hb3.tr (hb4.wide (fun j z => by unfold asP at z; unfold psP; omega))
            refine ax_iinc dX12_wars_221 rfl (ax_inc 1) ?_
            refine ax_goto 67 dX12_wars_224 (by decide +kernel) ?_
            rw [nI_add k' 1, hz]
            exact ih1 _ _ S4 _ _ _ _ h4 (by omega) (hbb.tr hb5) e4 (hB2.bk hN hb5 hM4 hR4 hlo4)
          by_cases hc : wR N (wN N (trN N) (nT N) (a0.1, σ, 0) i).2.1 = 0
          · refine ax_if_neF 213 dX12_wars_206 (by decide +kernel) (by rw [hc]; rfl) ?_
            refine ax_iconst dX12_wars_209 (v := nI 1) (by decide) ?_
            refine ax_goto 214 dX12_wars_210 (by decide +kernel) ?_
            exact nx 1 (by rw [if_pos hc])
          · refine ax_if_neT 213 dX12_wars_206 (by decide +kernel) (nI_ne0 (by omega) (by omega)) ?_
            refine ax_iconst dX12_wars_213 (v := nI 0) (by decide) ?_
            exact nx 0 (by rw [if_neg hc])
        | succ m2 ih2 =>
          intro i bc bm S3 o9 o10 o11 h3 hi hb3 e145 hI3
          have hxi := wN_x (N := N) (T := nT N) (tr := trN N) (τ := σ) (c := 0) hx0 i
          have hBi := hB0.wars (x := a0.1) (c := 0) hN hN.tr hb0' i
          have hst : wN N (trN N) (nT N) (a0.1, σ, 0) (i + 1) = w1 N (trN N) (nT N) (wN N (trN N) (nT N) (a0.1, σ, 0) i) := rfl
          have ih3 := ih2 (i + 1)
          rw [hst] at ih3
          generalize wN N (trN N) (nT N) (a0.1, σ, 0) i = ai at *
          unfold w1 at ih3
          dsimp only at ih3
          have hx1 := dw_lt ai.1
          have hr9 : dw ai.1 / 65536 % nR N < nR N := Nat.mod_lt _ (by omega)
          have hv9 : dw (dw ai.1) / 65536 % 500 < 500 := Nat.mod_lt _ (by decide)
          generalize hr9e : dw ai.1 / 65536 % nR N = r9 at hr9 ih3
          generalize hv9e : dw (dw ai.1) / 65536 % 500 = v9 at hv9 ih3
          have e9 := hI3.1.1
          have hh9 := hBi.1 r9 (by omega)
          refine ax_iload dX12_wars_80 rfl ?_
          refine ax_iload_n dX12_wars_82 rfl ?_
          refine ax_icmp_geF 200 dX12_wars_83 (by decide) (nI_ge (by omega) (by omega)) ?_
          refine ax_aload_n dX12_wars_86 rfl ?_
          refine ax_aload_n dX12_wars_87 rfl ?_
          refine ax_cV dX12_wars_88 mmX12_roads lkX12_194 miX12_roads msX12_roads (ax_recv_of e145 rfl) rfl rfl (Nat.le_of_ble_eq_true rfl) (Nat.le_of_ble_eq_true rfl) rfl rfl (k_roads e145 e9 ⟨_, rfl, ?_⟩)
          rw [f2]
          refine ax_cV dX12_wars_91 mmX12_draw lkX12_384 miX12_draw msX12_draw (ax_recv_of e145 rfl) rfl rfl (Nat.le_of_ble_eq_true rfl) (Nat.le_of_ble_eq_true rfl) rfl rfl (k_draw (x := ai.1) hxi (by omega) (by omega) e145 ⟨_, rfl, ?_⟩)
          rw [hr9e]
          have hI4 : TrI (ax_wr h3 145 (eM 0 ta si pt fa co nm rd 1 0 (-1) (-1) bc bm (lN (dw ai.1)))) S2 S3 F O A N ai.2.1 := hI3.kept (fun j hj => ax_wr_ne hj)
          have hb4 : But h2 (ax_wr h3 145 (eM 0 ta si pt fa co nm rd 1 0 (-1) (-1) bc bm (lN (dw ai.1)))) psP := hb3.wr (by unfold psP; omega)
          have e145 : (ax_wr h3 145 (eM 0 ta si pt fa co nm rd 1 0 (-1) (-1) bc bm (lN (dw ai.1)))).2.2 145 = some (eM 0 ta si pt fa co nm rd 1 0 (-1) (-1) bc bm (lN (dw ai.1))) := ax_wr_eq
          generalize ax_wr h3 145 (eM 0 ta si pt fa co nm rd 1 0 (-1) (-1) bc bm (lN (dw ai.1))) = h4 at hI4 hb4 e145 ⊢
          have e159 := hI4.1.2.2.2.1
          refine ax_istore dX12_wars_94 (Nat.le_of_ble_eq_true rfl) ?_
          refine ax_aload_n dX12_wars_96 rfl ?_
          refine ax_getf dX12_wars_97 flX12_99 e145 rfl ?_
          refine ax_iconst dX12_wars_100 (v := nI 1) (by decide) ?_
          refine ax_iload dX12_wars_101 rfl ?_
          refine ax_iadd dX12_wars_103 ?_
          rw [nI_add 1 r9]
          refine ax_iald dX12_wars_104 e159 (ax_ix_nI (j := 1 + r9) (by omega) (by decide)) ?_
          rw [hI4.2.2.1.2.1 r9 hr9]
          refine ax_aload_n dX12_wars_105 rfl ?_
          refine ax_sipush dX12_wars_106 (v := nI 500) (by decide) ?_
          refine ax_cV dX12_wars_109 mmX12_draw lkX12_384 miX12_draw msX12_draw (ax_recv_of e145 rfl) rfl rfl (Nat.le_of_ble_eq_true rfl) (Nat.le_of_ble_eq_true rfl) rfl rfl (k_draw (x := dw ai.1) hx1 (by decide) (by decide) e145 ⟨_, rfl, ?_⟩)
          rw [hv9e]
          have hI5 : TrI (ax_wr h4 145 (eM 0 ta si pt fa co nm rd 1 0 (-1) (-1) bc bm (lN (dw (dw ai.1))))) S2 S3 F O A N ai.2.1 := hI4.kept (fun j hj => ax_wr_ne hj)
          have hb5 : But h2 (ax_wr h4 145 (eM 0 ta si pt fa co nm rd 1 0 (-1) (-1) bc bm (lN (dw (dw ai.1))))) psP := hb4.wr (by unfold psP; omega)
          have e145 : (ax_wr h4 145 (eM 0 ta si pt fa co nm rd 1 0 (-1) (-1) bc bm (lN (dw (dw ai.1))))).2.2 145 = some (eM 0 ta si pt fa co nm rd 1 0 (-1) (-1) bc bm (lN (dw (dw ai.1)))) := ax_wr_eq
          generalize ax_wr h4 145 (eM 0 ta si pt fa co nm rd 1 0 (-1) (-1) bc bm (lN (dw (dw ai.1)))) = h5 at hI5 hb5 e145 ⊢
          have e159 := hI5.1.2.2.2.1
          refine ax_iadd dX12_wars_112 ?_
          rw [nI_add (ai.2.1 1 r9) v9]
          refine ax_istore dX12_wars_113 (Nat.le_of_ble_eq_true rfl) ?_
          refine ax_aload_n dX12_wars_115 rfl ?_
          refine ax_getf dX12_wars_116 flX12_99 e145 rfl ?_
          refine ax_iconst dX12_wars_119 (v := nI 1) (by decide) ?_
          refine ax_iload dX12_wars_120 rfl ?_
          refine ax_iadd dX12_wars_122 ?_
          rw [nI_add 1 r9]
          refine ax_iload dX12_wars_123 rfl ?_
          refine ax_ldcw dX12_wars_125 cnX12_326 ?_
          refine ax_icmp_leT 137 dX12_wars_128 (by decide) (show nI (ai.2.1 1 r9 + v9) ≤ nI 999999 from nI_le (by omega) (by decide)) ?_
          refine ax_iload dX12_wars_137 rfl ?_
          refine ax_iast dX12_wars_139 e159 (ax_ix_nI (j := 1 + r9) (by omega) (by decide)) ?_
          have hI6 : TrI (ax_wr h5 159 (eI 12840 (upd S3 (1 + r9) (nI (ai.2.1 1 r9 + v9))))) S2 (upd S3 (1 + r9) (nI (ai.2.1 1 r9 + v9))) F O A N (warS ai.2.1 r9 v9) := hI5.war hN hr9 (fun j z1 z2 => ax_wr_ne z2) ax_wr_eq
          have hb6 : But h2 (ax_wr h5 159 (eI 12840 (upd S3 (1 + r9) (nI (ai.2.1 1 r9 + v9))))) psP := hb5.wr (by unfold psP; omega)
          have e145 : (ax_wr h5 159 (eI 12840 (upd S3 (1 + r9) (nI (ai.2.1 1 r9 + v9))))).2.2 145 = _ := (ax_wr_ne (by decide)).trans e145
          generalize ax_wr h5 159 (eI 12840 (upd S3 (1 + r9) (nI (ai.2.1 1 r9 + v9)))) = h6 at hI6 hb6 e145 ⊢
          refine ax_aload_n dX12_wars_140 rfl ?_
          refine ax_cV dX12_wars_141 mmX12_passes lkX12_346 miX12_passes msX12_passes (ax_recv_of e145 rfl) rfl rfl (Nat.le_of_ble_eq_true rfl) (Nat.le_of_ble_eq_true rfl) rfl rfl (k_tpass (d := d + 1) (swo := none) hN.tr hFT.td hT0 (Or.inl rfl) rfl (fun r hr => by cases hr) hN (hBi.war (r := r9) (v := v9) (by omega)) (by omega) (by omega) hF hL hI6 e145 (fun h7 S7 bc7 bm7 hb7 e7 hI7 => ⟨_, rfl, ?_⟩))
          have e145 := e7
          have e159 := hI7.1.2.2.2.1
          have hcm := tf_came (N := N) (τ := warS ai.2.1 r9 v9) (tr := trN N) (nT N) (fun t ht => (hN.tr.2 t ht).2.2.2.1)
          have h5s : ∀ t, t < 6 → S7 (111 + t) = nI ((tf N (warS ai.2.1 r9 v9) (trN N) (nT N)).2.2.2.1 t) - nI 1 := hI7.2.2.2.1.1
          have tl : ∀ (m t : Nat), t + m = nT N → X G (d + 13) mX12_wars 147 [some (.ref 145), some (.int (nI sd)), some (.int (nI k)), some (.int (nI n)), some (.int (nI j)), some (.int (nI a0.2.1)), some (.int (nI (a0.2.2 + ai.2.2 + sm (fun t => (tf N (warS ai.2.1 r9 v9) (trN N) (nT N)).2.2.2.1 t - 1) t))), some (.int (nI k')), some (.int (nI i)), some (.int (nI r9)), some (.int (nI (ai.2.1 1 r9 + v9))), some (.int (nI t))] [] h7 Q := by
            intro m3
            induction m3 with
            | zero =>
              intro t ht
              obtain rfl : t = nT N := by omega
              refine ax_iload dX12_wars_147 rfl ?_
              refine ax_aload_n dX12_wars_149 rfl ?_
              refine ax_cV dX12_wars_150 mmX12_trades lkX12_276 miX12_trades msX12_trades (ax_recv_of e145 rfl) rfl rfl (Nat.le_of_ble_eq_true rfl) (Nat.le_of_ble_eq_true rfl) rfl rfl (k_trades (Or.inl rfl) e145 hI7.1.1 ⟨_, rfl, ?_⟩)
              rw [hT0]
              refine ax_icmp_geT 194 dX12_wars_153 (by decide) (Int32.le_refl _) ?_
              refine ax_iinc dX12_wars_194 rfl (ax_inc 1) ?_
              refine ax_goto 80 dX12_wars_197 (by decide) ?_
              rw [nI_add i 1, ← hcm.1, Nat.add_assoc a0.2.2 ai.2.2]
              exact ih3 bc7 bm7 S7 _ _ _ h7 (by omega) (hb6.tr hb7) e7 hI7
            | succ m3 ih4 =>
              intro t ht
              have y5 := hcm.2 t (by omega)
              have nx : ∀ z : Nat, z = (tf N (warS ai.2.1 r9 v9) (trN N) (nT N)).2.2.2.1 t - 1 → X G (d + 13) mX12_wars 185 [some (.ref 145), some (.int (nI sd)), some (.int (nI k)), some (.int (nI n)), some (.int (nI j)), some (.int (nI a0.2.1)), some (.int (nI (a0.2.2 + ai.2.2 + sm (fun t => (tf N (warS ai.2.1 r9 v9) (trN N) (nT N)).2.2.2.1 t - 1) t))), some (.int (nI k')), some (.int (nI i)), some (.int (nI r9)), some (.int (nI (ai.2.1 1 r9 + v9))), some (.int (nI t))] [.int (nI z), .int (nI (a0.2.2 + ai.2.2 + sm (fun t => (tf N (warS ai.2.1 r9 v9) (trN N) (nT N)).2.2.2.1 t - 1) t))] h7 Q := by
                intro z hz
                refine ax_iadd dX12_wars_185 ?_
                refine ax_istore dX12_wars_186 (Nat.le_of_ble_eq_true rfl) ?_
                refine ax_iinc dX12_wars_188 rfl (ax_inc 1) ?_
                refine ax_goto 147 dX12_wars_191 (by decide) ?_
                rw [nI_add (a0.2.2 + ai.2.2 + sm (fun t => (tf N (warS ai.2.1 r9 v9) (trN N) (nT N)).2.2.2.1 t - 1) t) z, nI_add t 1, hz, Nat.add_assoc (a0.2.2 + ai.2.2)]
                exact ih4 (t + 1) (by omega)
              refine ax_iload dX12_wars_147 rfl ?_
              refine ax_aload_n dX12_wars_149 rfl ?_
              refine ax_cV dX12_wars_150 mmX12_trades lkX12_276 miX12_trades msX12_trades (ax_recv_of e145 rfl) rfl rfl (Nat.le_of_ble_eq_true rfl) (Nat.le_of_ble_eq_true rfl) rfl rfl (k_trades (Or.inl rfl) e145 hI7.1.1 ⟨_, rfl, ?_⟩)
              rw [hT0]
              refine ax_icmp_geF 194 dX12_wars_153 (by decide) (nI_ge (by omega) (by omega)) ?_
              refine ax_iload dX12_wars_156 rfl ?_
              refine ax_aload_n dX12_wars_158 rfl ?_
              refine ax_getf dX12_wars_159 flX12_99 e145 rfl ?_
              refine ax_bipush dX12_wars_162 (v := nI 111) (by decide) ?_
              refine ax_iload dX12_wars_164 rfl ?_
              refine ax_iadd dX12_wars_166 ?_
              rw [nI_add 111 t]
              refine ax_iald dX12_wars_167 e159 (ax_ix_nI (j := 111 + t) (by omega) (by decide)) ?_
              rw [h5s t (by omega)]
              by_cases hc : 2 ≤ (tf N (warS ai.2.1 r9 v9) (trN N) (nT N)).2.2.2.1 t
              · rw [pk_sub (show 1 ≤ (tf N (warS ai.2.1 r9 v9) (trN N) (nT N)).2.2.2.1 t by omega)]
                refine ax_if_leF 184 dX12_wars_168 (by decide) (nI_nle (by omega) (by omega)) ?_
                refine ax_aload_n dX12_wars_171 rfl ?_
                refine ax_getf dX12_wars_172 flX12_99 e145 rfl ?_
                refine ax_bipush dX12_wars_175 (v := nI 111) (by decide) ?_
                refine ax_iload dX12_wars_177 rfl ?_
                refine ax_iadd dX12_wars_179 ?_
                rw [nI_add 111 t]
                refine ax_iald dX12_wars_180 e159 (ax_ix_nI (j := 111 + t) (by omega) (by decide)) ?_
                rw [h5s t (by omega), pk_sub (show 1 ≤ (tf N (warS ai.2.1 r9 v9) (trN N) (nT N)).2.2.2.1 t by omega)]
                refine ax_goto 185 dX12_wars_181 (by decide) ?_
                exact nx _ rfl
              · have hneg : nI ((tf N (warS ai.2.1 r9 v9) (trN N) (nT N)).2.2.2.1 t) - nI 1 ≤ 0 := by
                  rcases (show (tf N (warS ai.2.1 r9 v9) (trN N) (nT N)).2.2.2.1 t = 0 ∨ (tf N (warS ai.2.1 r9 v9) (trN N) (nT N)).2.2.2.1 t = 1 by omega) with q | q
                  · rw [q]; decide
                  · rw [q]; decide
                refine ax_if_leT 184 dX12_wars_168 (by decide) hneg ?_
                refine ax_iconst dX12_wars_184 (v := nI 0) (by decide) ?_
                exact nx 0 (by omega)
          refine ax_iconst dX12_wars_144 (v := nI 0) (by decide) ?_
          refine ax_istore dX12_wars_145 (Nat.le_of_ble_eq_true rfl) ?_
          exact tl (nT N) 0 (by omega)
      refine ax_iload dX12_wars_67 rfl ?_
      refine ax_iload_n dX12_wars_69 rfl ?_
      refine ax_icmp_geF 227 dX12_wars_70 (by decide) (nI_ge (by omega) (by omega)) ?_
      refine ax_aload_n dX12_wars_73 rfl ?_
      refine ax_cV dX12_wars_74 mmX12_aside lkX12_349 miX12_aside msX12_aside (ax_recv_of e145 rfl) rfl rfl (Nat.le_of_ble_eq_true rfl) (Nat.le_of_ble_eq_true rfl) rfl rfl (k_aside (d := d + 11) hN hM2 hR2 hSt2.1 hSt2.2.1 e145 (fun h3 S3 hb3 e3 hI3 hlo3 => ⟨_, rfl, ?_⟩))
      refine ax_iconst dX12_wars_77 (v := nI 0) (by decide) ?_
      refine ax_istore dX12_wars_78 (Nat.le_of_ble_eq_true rfl) ?_
      exact inner n 0 bc bm S3 _ _ _ h3 (by omega) (hb3.wide (fun j z => by unfold asP at z; unfold psP; omega)) e3 hI3
  refine ax_if_neT 52 dX12_wars_47 (by decide) (nI_ne0 (by omega) (by omega)) ?_
  refine ax_aload_n dX12_wars_52 rfl ?_
  refine ax_iload_n dX12_wars_53 rfl ?_
  refine ax_i2l dX12_wars_54 ?_
  refine ax_putf dX12_wars_55 flX12_372 e145 (Nat.le_of_ble_eq_true rfl) (fun _ => ⟨rfl, rfl⟩) ?_
  refine ax_iconst dX12_wars_58 (v := nI 0) (by decide) ?_
  refine ax_istore dX12_wars_59 (Nat.le_of_ble_eq_true rfl) ?_
  refine ax_iconst dX12_wars_61 (v := nI 0) (by decide) ?_
  refine ax_istore dX12_wars_62 (Nat.le_of_ble_eq_true rfl) ?_
  refine ax_iconst dX12_wars_64 (v := nI 0) (by decide) ?_
  refine ax_istore dX12_wars_65 (Nat.le_of_ble_eq_true rfl) ?_
  rw [nI_l (show sd < 2 ^ 31 by omega)]
  refine ax_hp (h1 := ax_wr h1 145 (eM 0 ta si pt fa co nm rd 0 0 (-1) (-1) bc bm (lN sd))) rfl ?_
  exact outer k 0 bc bm S _ _ _ _ _ (by omega) (But.rf.wr (by unfold psP; omega)) ax_wr_eq (hB.kept (fun j z1 z2 => ax_wr_ne (by omega)))
end MBA
