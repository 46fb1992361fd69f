section MZ
variable {G : ax_G} {d : Nat} {h : ax_H} {Q : ax_O → ax_H → Prop} {N : Nt} {σ : Sd}
variable {th ta si pt fa co nm rd ask nw os sw bc bm : Int32} {gg : Int64} {F S O A : Nat → Int32}
def psP : Nat → Prop := fun j => j = 145 ∨ j = 157 ∨ j = 158 ∨ j = 159 ∨ (161 ≤ j ∧ j ≤ 166)
/-- the model's scratch rows -/
def MR (h : ax_H) : Prop := anA h 161 10 ∧ anA h 162 10 ∧ anA h 163 10 ∧ anA h 164 50 ∧ anA h 165 10 ∧ anA h 166 10
/-- layers and what lies behind them, behind a year -/
def lyJ (S' S : Nat → Int32) (y0 : Nat) (ask : Int32) (lf : Nat → Nat) : Prop := (∀ j, 133 ≤ j → (¬ (ask = 0 ∧ y0 < 40) ∨ j < 133 + 50 * y0 ∨ 133 + 50 * y0 + 50 ≤ j) → S' j = S j) ∧ (ask = 0 → y0 < 40 → ∀ c, c < 50 → S' (133 + 50 * y0 + c) = nI (lf c))
theorem k_passes {T kp : Nat} {tr : Nat → Nat → Nat} {swo : Option Nat} (htr : trOK N T tr) (hTd : TdI F os T tr) (hT : F 3 + nw = nI T) (hnw : nw = 0 ∨ nw = 1) (hsw : sw = on swo) (hsw2 : ∀ j, swo = some j → j < 100) (hN : nOK N) (hO : sOK N σ) (hpu : ∀ c, σ 3 c ≤ 198) (hy : σ 0 0 < 2 ^ 29) (hF : FnB F N) (hL : FnL F O A N) (hS : Sb S N σ) (hSc : Sc S (nS N) (σ 5) (σ 6) (σ 4)) (hM : MC h F S O A) (hR : MR h) (e145 : h.2.2 145 = some (eM th ta si pt fa co nm rd ask nw os sw bc bm gg))
    (hq : ∀ h' S' bc' bm', But h h' psP → h'.2.2 145 = some (eM th ta si pt fa co nm rd ask nw os sw bc' bm' gg) → MC h' F S' O A → MR h' → Sb S' N (yS N σ kp tr T swo) → Sc S' (nS N) (yS N σ kp tr T swo 5) (yS N σ kp tr T swo 6) (yS N σ kp tr T swo 4) → (∀ j, 128 ≤ j → j < 133 → S' j = S j) → lyJ S' S (σ 0 0) ask (lfN σ (tf N σ tr T)) → Q (.inl none) h') : X G (d + 11) mX12_passes 0 (ax_in 4 [.ref 145]) [] h Q := by
  have hR10 := hN.2.2.1
  have hS5 := hN.1
  have hT6 := htr.1
  have f2 := hF.2.2.1
  obtain ⟨c0, c1, c2, c3⟩ := id hS
  obtain ⟨d5, d6, d4⟩ := id hSc
  obtain ⟨a161, a162, a163, ⟨f4, e164⟩, ⟨f5, e165⟩, ⟨f6, e166⟩⟩ := id hR
  have tle := tf_le (N := N) (σ := σ) (tr := tr) T (fun t ht => (htr.2 t ht).2.2.2.1)
  have l4 : ∀ (m i : Nat) (S1 Hf : Nat → Int32) (bc bm : Int32) (o2 o3 : Option Value) (h1 : ax_H), i + m = nR N → But h h1 psP → h1.2.2 145 = some (eM th ta si pt fa co nm rd ask nw os sw bc bm gg) → MC h1 F S1 O A → anA h1 161 10 → anA h1 162 10 → anA h1 163 10 → (∀ j, (j < 111 ∨ 123 ≤ j) → S1 j = S j) → isA h1 164 50 50 (lfN σ (tf N σ tr T)) → isA h1 165 10 10 (tf N σ tr T).1 → (∀ i, i < 6 → S1 (111 + i) = nI ((tf N σ tr T).2.2.2.1 i) - nI 1) → (∀ i, i < 6 → S1 (117 + i) = nI ((tf N σ tr T).2.2.2.2.1 i)) → h1.2.2 166 = some (eI 10 Hf) → (∀ r, r < i → Hf r = nI (mdV N σ swo (lfN σ (tf N σ tr T)) (tf N σ tr T).1 r)) → X G (d + 11) mX12_passes 73 [some (.ref 145), some (.int (nI i)), o2, o3] [] h1 Q := by
    intro m
    induction m with
    | zero =>
      intro i S1 Hf bc bm o2 o3 h1 hi hb e145 hM1 a161 a162 a163 g1 a164 a165 g5 g6 e166 gH
      obtain rfl : i = nR N := by omega
      have hS1 : Sb S1 N σ := hS.kept hN (fun j hj => g1 j (Or.inl hj))
      refine ax_iload_n dX12_passes_73 rfl ?_
      refine ax_aload_n dX12_passes_74 rfl ?_
      refine ax_cV dX12_passes_75 mmX12_roads lkX12_194 miX12_roads msX12_roads (ax_recv_of e145 rfl) rfl rfl (Nat.le_of_ble_eq_true rfl) (Nat.le_of_ble_eq_true rfl) rfl rfl (k_roads e145 hM1.1 ⟨_, rfl, ?_⟩)
      rw [f2]
      refine ax_icmp_geT 98 dX12_passes_78 (by decide) (Int32.le_refl _) ?_
      refine k_roadsEnd (d := d) hsw hsw2 hN hF hS1 (fun z hz => (g1 _ (by omega)).trans (d4 z hz)) hM1 a164 e166 gH e145 (fun h2 S2 o2 o3 hb2 hM2 hI2 => ?_) _ _ _
      obtain ⟨i1, i2, i3, i4⟩ := hI2
      have e145 := (hb2.2.2 145 (by omega)).trans e145
      refine k_layEnd (d := d) (lf := lfN σ (tf N σ tr T)) (y0 := σ 0 0) (by omega) ((i4 0 (by omega)).trans ((g1 0 (by omega)).trans c0)) hM2 (a164.kept (hb2.2.2 164 (by omega))) e145 (fun h3 S3 hb3 hM3 hI3 => ?_) _ _ _
      obtain ⟨j1, j2, j3, j4⟩ := hI3
      have hbb : But h1 h3 (fun j => j = 159) := hb2.tr hb3
      refine hq h3 S3 bc bm (hb.tr (hbb.wide (fun j z => by unfold psP; omega))) ((hbb.2.2 145 (by omega)).trans ((hb2.2.2 145 (by omega)).symm.trans e145)) hM3 ⟨a161.kept (hbb.2.2 _ (by omega)), a162.kept (hbb.2.2 _ (by omega)), a163.kept (hbb.2.2 _ (by omega)), a164.any.kept (hbb.2.2 _ (by omega)), a165.any.kept (hbb.2.2 _ (by omega)), ⟨_, (hbb.2.2 _ (by omega)).trans e166⟩⟩ ⟨j1, fun r hr => ?_, fun c hc => ?_, fun c hc => ?_⟩ ⟨fun t ht => ?_, fun t ht => ?_, fun s hs => ?_⟩ (fun j z1 z2 => ?_) ⟨fun j z1 z2 => ?_, j4⟩
      · rw [j2 (1 + r) (by omega) (by omega), i1 r hr, if_pos hr, yS_1 hN hr]
      · obtain ⟨q, z, rfl, hq10, hz5⟩ : ∃ q z, c = 5 * q + z ∧ q < 10 ∧ z < 5 := ⟨c / 5, c % 5, by omega, by omega, by omega⟩
        rw [j2 (11 + (5 * q + z)) (by omega) (by omega), i2 q z hq10 hz5, yS_2 hN hz5]
        congr 1
        by_cases hc2 : q < nR N ∧ z < nS N
        · rw [if_pos ⟨Or.inl hc2.1, hc2⟩, if_pos hc2]
        · rw [if_neg (fun w => hc2 w.2), if_neg hc2]
      · rw [j2 (61 + c) (by omega) (by omega), i4 (61 + c) (by omega), g1 (61 + c) (by omega), c3 c hc, yS_3]
      · rw [j2 (111 + t) (by omega) (by omega), i4 (111 + t) (by omega), g5 t ht]
        rfl
      · rw [j2 (117 + t) (by omega) (by omega), i4 (117 + t) (by omega), g6 t ht]
        rfl
      · rw [j2 (123 + s) (by omega) (by omega), i3 s hs, if_neg (Nat.not_lt_zero _), yS_4 hN htr (by omega), if_pos hs]
      · rw [j2 j (by omega) z2, i4 j (by omega), g1 j (by omega)]
      · rw [j3 j z1 z2, i4 j (by omega), g1 j (by omega)]
    | succ m ih =>
      intro i S1 Hf bc bm o2 o3 h1 hi hb e145 hM1 a161 a162 a163 g1 a164 a165 g5 g6 e166 gH
      have hS1 : Sb S1 N σ := hS.kept hN (fun j hj => g1 j (Or.inl hj))
      have hs1 := hO.1 i (by omega)
      refine ax_iload_n dX12_passes_73 rfl ?_
      refine ax_aload_n dX12_passes_74 rfl ?_
      refine ax_cV dX12_passes_75 mmX12_roads lkX12_194 miX12_roads msX12_roads (ax_recv_of e145 rfl) rfl rfl (Nat.le_of_ble_eq_true rfl) (Nat.le_of_ble_eq_true rfl) rfl rfl (k_roads e145 hM1.1 ⟨_, rfl, ?_⟩)
      rw [f2]
      refine ax_icmp_geF 98 dX12_passes_78 (by decide) (nI_ge (by omega) (by omega)) ?_
      refine ax_aload_n dX12_passes_81 rfl ?_
      refine ax_getf dX12_passes_82 flX12_127 e145 rfl ?_
      refine ax_iload_n dX12_passes_85 rfl ?_
      refine ax_aload_n dX12_passes_86 rfl ?_
      refine ax_iload_n dX12_passes_87 rfl ?_
      refine ax_cV dX12_passes_88 mmX12_mended lkX12_317 miX12_mended msX12_mended (ax_recv_of e145 rfl) rfl rfl (Nat.le_of_ble_eq_true rfl) (Nat.le_of_ble_eq_true rfl) rfl rfl (k_mended (d := d + 6) hsw hsw2 (by omega) hN hO hF hL hS1 hM1 hs1 (by have := (tle i).1; omega) (fun c hc => by have := (tle c).2; have := hpu c; show (tf N σ tr T).2.1 c + σ 3 c < 100000; omega) a164 a165 e145 (fun h2 hb2 hM2 => ⟨_, rfl, ?_⟩))
      have kp2 : ∀ j, ¬ mfP j → h2.2.2 j = h1.2.2 j := fun j z => hb2.2.2 j z
      have e145 := (kp2 145 (by unfold mfP; omega)).trans e145
      have e166 := (kp2 166 (by unfold mfP; omega)).trans e166
      obtain ⟨m151, m152, m153, m159, a157, a158⟩ := id hM2
      refine ax_iast dX12_passes_91 e166 (ax_ix_nI (j := i) (by omega) (by decide)) ?_
      refine ax_iinc dX12_passes_92 rfl (ax_inc 1) ?_
      refine ax_goto 73 dX12_passes_95 (by decide) ?_
      rw [nI_add i 1]
      refine ih (i + 1) S1 _ bc bm _ _ _ (by omega) ((hb.tr (hb2.wide (fun j z => by unfold mfP at z; unfold psP; omega))).wr (by unfold psP; omega)) ((ax_wr_ne (by decide)).trans e145) ⟨(ax_wr_ne (by decide)).trans m151, (ax_wr_ne (by decide)).trans m152, (ax_wr_ne (by decide)).trans m153, (ax_wr_ne (by decide)).trans m159, a157.kept (ax_wr_ne (by decide)), a158.kept (ax_wr_ne (by decide))⟩ (a161.kept ((ax_wr_ne (by decide)).trans (kp2 161 (by unfold mfP; omega)))) (a162.kept ((ax_wr_ne (by decide)).trans (kp2 162 (by unfold mfP; omega)))) (a163.kept ((ax_wr_ne (by decide)).trans (kp2 163 (by unfold mfP; omega)))) g1 (a164.kept ((ax_wr_ne (by decide)).trans (kp2 164 (by unfold mfP; omega)))) (a165.kept ((ax_wr_ne (by decide)).trans (kp2 165 (by unfold mfP; omega)))) g5 g6 ax_wr_eq (fun r hr => ?_)
      by_cases hri : r = i
      · rw [hri]; exact pk_us
      · rw [pk_un hri]; exact gH r (by omega)
  have l3 : ∀ (m i : Nat) (S1 : Nat → Int32) (bc bm : Int32) (o2 o3 : Option Value) (h1 : ax_H), i + m = T → But h h1 psP → h1.2.2 145 = some (eM th ta si pt fa co nm rd ask nw os sw bc bm gg) → MC h1 F S1 O A → anA h1 161 10 → anA h1 162 10 → anA h1 163 10 → (∀ j, (j < 111 ∨ 123 ≤ j) → S1 j = S j) → isA h1 164 50 50 (lfN σ (tf N σ tr i)) → isA h1 165 10 10 (tf N σ tr i).1 → (∀ k, k < 6 → S1 (111 + k) = nI ((tf N σ tr i).2.2.2.1 k) - nI 1) → (∀ k, k < 6 → S1 (117 + k) = nI ((tf N σ tr i).2.2.2.2.1 k)) → h1.2.2 166 = some (eI 10 f6) → X G (d + 11) mX12_passes 52 [some (.ref 145), some (.int (nI i)), o2, o3] [] h1 Q := by
    intro m
    induction m with
    | zero =>
      intro i S1 bc bm o2 o3 h1 hi hb e145 hM1 a161 a162 a163 g1 a164 a165 g5 g6 e166
      obtain rfl : i = T := by omega
      refine ax_iload_n dX12_passes_52 rfl ?_
      refine ax_aload_n dX12_passes_53 rfl ?_
      refine ax_cV dX12_passes_54 mmX12_trades lkX12_276 miX12_trades msX12_trades (ax_recv_of e145 rfl) rfl rfl (Nat.le_of_ble_eq_true rfl) (Nat.le_of_ble_eq_true rfl) rfl rfl (k_trades hnw e145 hM1.1 ⟨_, rfl, ?_⟩)
      rw [hT]
      refine ax_icmp_geT 71 dX12_passes_57 (by decide) (Int32.le_refl _) ?_
      refine ax_iconst dX12_passes_71 (v := nI 0) (by decide) ?_
      refine ax_istore_n dX12_passes_72 (Nat.le_of_ble_eq_true rfl) ?_
      exact l4 (nR N) 0 S1 f6 bc bm _ _ h1 (by omega) hb e145 hM1 a161 a162 a163 g1 a164 a165 g5 g6 e166 (fun r hr => absurd hr (Nat.not_lt_zero _))
    | succ m ih =>
      intro i S1 bc bm o2 o3 h1 hi hb e145 hM1 a161 a162 a163 g1 a164 a165 g5 g6 e166
      have hS1 : Sb S1 N σ := hS.kept hN (fun j hj => g1 j (Or.inl hj))
      refine ax_iload_n dX12_passes_52 rfl ?_
      refine ax_aload_n dX12_passes_53 rfl ?_
      refine ax_cV dX12_passes_54 mmX12_trades lkX12_276 miX12_trades msX12_trades (ax_recv_of e145 rfl) rfl rfl (Nat.le_of_ble_eq_true rfl) (Nat.le_of_ble_eq_true rfl) rfl rfl (k_trades hnw e145 hM1.1 ⟨_, rfl, ?_⟩)
      rw [hT]
      refine ax_icmp_geF 71 dX12_passes_57 (by decide) (nI_ge (by omega) (by omega)) ?_
      refine ax_aload_n dX12_passes_60 rfl ?_
      refine ax_iload_n dX12_passes_61 rfl ?_
      refine ax_cV dX12_passes_62 mmX12_goesTrade lkX12_314 miX12_goesTrade msX12_goesTrade (ax_recv_of e145 rfl) rfl rfl (Nat.le_of_ble_eq_true rfl) (Nat.le_of_ble_eq_true rfl) rfl rfl (k_goesTrade (d := d) (y := tf N σ tr i) (by omega) htr hTd hN hO hF hL hS1 hM1 a161 a162 a163 a164 a165 g5 g6 e145 (fun h2 S2 bc2 bm2 hb2 e145' hM2 x161 x162 x163 k1 x164 x165 k5 k6 => ⟨_, rfl, ?_⟩))
      refine ax_iinc dX12_passes_65 rfl (ax_inc 1) ?_
      refine ax_goto 52 dX12_passes_68 (by decide) ?_
      rw [nI_add i 1]
      exact ih (i + 1) S2 bc2 bm2 _ _ h2 (by omega) (hb.tr (hb2.wide (fun j z => by unfold gtP at z; unfold psP; omega))) e145' hM2 x161 x162 x163 (fun j hj => (k1 j hj).trans (g1 j hj)) x164 x165 k5 k6 ((hb2.2.2 166 (by unfold gtP; omega)).trans e166)
  have l2 : ∀ (m i : Nat) (P : Nat → Int32) (o2 o3 : Option Value) (h1 : ax_H), i + m = 10 → But h h1 psP → h1.2.2 145 = some (eM th ta si pt fa co nm rd ask nw os sw bc bm gg) → MC h1 F S O A → anA h1 161 10 → anA h1 162 10 → anA h1 163 10 → isA h1 164 50 50 (lfN σ (tf N σ tr 0)) → h1.2.2 165 = some (eI 10 P) → (∀ j, j < i → P j = nI 0) → h1.2.2 166 = some (eI 10 f6) → X G (d + 11) mX12_passes 31 [some (.ref 145), some (.int (nI i)), o2, o3] [] h1 Q := by
    intro m
    induction m with
    | zero =>
      intro i P o2 o3 h1 hi hb e145 hM1 a161 a162 a163 a164 e165 gP e166
      obtain rfl : i = 10 := by omega
      refine ax_iload_n dX12_passes_31 rfl ?_
      refine ax_bipush dX12_passes_32 (v := nI 10) (by decide) ?_
      refine ax_icmp_geT 50 dX12_passes_34 (by decide) (by decide) ?_
      refine ax_iconst dX12_passes_50 (v := nI 0) (by decide) ?_
      refine ax_istore_n dX12_passes_51 (Nat.le_of_ble_eq_true rfl) ?_
      exact l3 T 0 S bc bm _ _ h1 (by omega) hb e145 hM1 a161 a162 a163 (fun _ _ => rfl) a164 ⟨P, e165, gP⟩ d5 d6 e166
    | succ m ih =>
      intro i P o2 o3 h1 hi hb e145 hM1 a161 a162 a163 a164 e165 gP e166
      obtain ⟨m151, m152, m153, m159, a157, a158⟩ := id hM1
      refine ax_iload_n dX12_passes_31 rfl ?_
      refine ax_bipush dX12_passes_32 (v := nI 10) (by decide) ?_
      refine ax_icmp_geF 50 dX12_passes_34 (by decide) (nI_ge (by omega) (by decide)) ?_
      refine ax_aload_n dX12_passes_37 rfl ?_
      refine ax_getf dX12_passes_38 flX12_124 e145 rfl ?_
      refine ax_iload_n dX12_passes_41 rfl ?_
      refine ax_iconst dX12_passes_42 (v := nI 0) (by decide) ?_
      refine ax_iast dX12_passes_43 e165 (ax_ix_nI (j := i) (by omega) (by decide)) ?_
      refine ax_iinc dX12_passes_44 rfl (ax_inc 1) ?_
      refine ax_goto 31 dX12_passes_47 (by decide) ?_
      rw [nI_add i 1]
      refine ih (i + 1) _ _ _ _ (by omega) (hb.wr (by unfold psP; omega)) ((ax_wr_ne (by decide)).trans e145) ⟨(ax_wr_ne (by decide)).trans m151, (ax_wr_ne (by decide)).trans m152, (ax_wr_ne (by decide)).trans m153, (ax_wr_ne (by decide)).trans m159, a157.kept (ax_wr_ne (by decide)), a158.kept (ax_wr_ne (by decide))⟩ (a161.kept (ax_wr_ne (by decide))) (a162.kept (ax_wr_ne (by decide))) (a163.kept (ax_wr_ne (by decide))) (a164.kept (ax_wr_ne (by decide))) ax_wr_eq (fun j hj => ?_) ((ax_wr_ne (by decide)).trans e166)
      by_cases hji : j = i
      · rw [hji]; exact pk_us
      · rw [pk_un hji]; exact gP j (by omega)
  have l1 : ∀ (m i : Nat) (L : Nat → Int32) (o2 o3 : Option Value) (h1 : ax_H), i + m = 50 → But h h1 psP → h1.2.2 145 = some (eM th ta si pt fa co nm rd ask nw os sw bc bm gg) → MC h1 F S O A → anA h1 161 10 → anA h1 162 10 → anA h1 163 10 → h1.2.2 164 = some (eI 50 L) → (∀ j, j < i → L j = nI (lfN σ (tf N σ tr 0) j)) → h1.2.2 165 = some (eI 10 f5) → h1.2.2 166 = some (eI 10 f6) → X G (d + 11) mX12_passes 2 [some (.ref 145), some (.int (nI i)), o2, o3] [] h1 Q := by
    intro m
    induction m with
    | zero =>
      intro i L o2 o3 h1 hi hb e145 hM1 a161 a162 a163 e164 gL e165 e166
      obtain rfl : i = 50 := by omega
      refine ax_iload_n dX12_passes_2 rfl ?_
      refine ax_bipush dX12_passes_3 (v := nI 50) (by decide) ?_
      refine ax_icmp_geT 29 dX12_passes_5 (by decide) (by decide) ?_
      refine ax_iconst dX12_passes_29 (v := nI 0) (by decide) ?_
      refine ax_istore_n dX12_passes_30 (Nat.le_of_ble_eq_true rfl) ?_
      exact l2 10 0 f5 _ _ h1 (by omega) hb e145 hM1 a161 a162 a163 ⟨L, e164, gL⟩ e165 (fun j hj => absurd hj (Nat.not_lt_zero _)) e166
    | succ m ih =>
      intro i L o2 o3 h1 hi hb e145 hM1 a161 a162 a163 e164 gL e165 e166
      obtain ⟨m151, m152, m153, e159, a157, a158⟩ := id hM1
      refine ax_iload_n dX12_passes_2 rfl ?_
      refine ax_bipush dX12_passes_3 (v := nI 50) (by decide) ?_
      refine ax_icmp_geF 29 dX12_passes_5 (by decide) (nI_ge (by omega) (by decide)) ?_
      refine ax_aload_n dX12_passes_8 rfl ?_
      refine ax_getf dX12_passes_9 flX12_121 e145 rfl ?_
      refine ax_iload_n dX12_passes_12 rfl ?_
      refine ax_aload_n dX12_passes_13 rfl ?_
      refine ax_getf dX12_passes_14 flX12_99 e145 rfl ?_
      refine ax_bipush dX12_passes_17 (v := nI 61) (by decide) ?_
      refine ax_iload_n dX12_passes_19 rfl ?_
      refine ax_iadd dX12_passes_20 ?_
      rw [nI_add 61 i]
      refine ax_iald dX12_passes_21 e159 (ax_ix_nI (j := 61 + i) (by omega) (by decide)) ?_
      rw [c3 i (by omega)]
      refine ax_iast dX12_passes_22 e164 (ax_ix_nI (j := i) (by omega) (by decide)) ?_
      refine ax_iinc dX12_passes_23 rfl (ax_inc 1) ?_
      refine ax_goto 2 dX12_passes_26 (by decide) ?_
      rw [nI_add i 1]
      refine ih (i + 1) _ _ _ _ (by omega) (hb.wr (by unfold psP; omega)) ((ax_wr_ne (by decide)).trans e145) ⟨(ax_wr_ne (by decide)).trans m151, (ax_wr_ne (by decide)).trans m152, (ax_wr_ne (by decide)).trans m153, (ax_wr_ne (by decide)).trans e159, a157.kept (ax_wr_ne (by decide)), a158.kept (ax_wr_ne (by decide))⟩ (a161.kept (ax_wr_ne (by decide))) (a162.kept (ax_wr_ne (by decide))) (a163.kept (ax_wr_ne (by decide))) ax_wr_eq (fun j hj => ?_) ((ax_wr_ne (by decide)).trans e165) ((ax_wr_ne (by decide)).trans e166)
      by_cases hji : j = i
      · rw [hji, pk_us]
        show nI (σ 3 i) = nI (0 + σ 3 i)
        rw [Nat.zero_add]
      · rw [pk_un hji]; exact gL j (by omega)
  refine ax_iconst dX12_passes_0 (v := nI 0) (by decide) ?_
  refine ax_istore_n dX12_passes_1 (Nat.le_of_ble_eq_true rfl) ?_
  exact l1 50 0 f4 _ _ h (by omega) But.rf e145 hM a161 a162 a163 e164 (fun j hj => absurd hj (Nat.not_lt_zero _)) e165 e166
end MZ
