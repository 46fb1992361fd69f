/-! ===== State: mean, isWorn, keeps, keepLayer; Survey: the laws ===== -/
section ST
variable {G : ax_G} {d : Nat} {h : ax_H} {Q : ax_O → ax_H → Prop} {k : Nat} {year kept : Int32}
theorem lg_pos {n : Nat} (hn : 0 < n) (hb : n < 2 ^ 62) : ¬ lg_cmp (lN n) (lN 0) ≤ 0 := by
  have h1 : lN 0 < lN n := (pk_lLT (by omega) (by omega)).mpr hn
  simp [lg_cmp, h1]
theorem lg_zero : lg_cmp (lN 0) (lN 0) ≤ 0 := by decide
theorem c_mean {ko r : Nat} {S o : Nat → Int32} {sf q : Nat → Nat} (ek : h.2.2 k = some (eSt k year kept)) (ek_2 : h.2.2 (k + 2) = some (eI 50 S)) (eko : h.2.2 ko = some (eI 5 o)) (hr : r < 10) (hS : ∀ s, s < 5 → S (5 * r + s) = nI (sf s)) (hsf : ∀ s, s < 5 → sf s < 2 ^ 28) (ho : ∀ s, s < 5 → o s = nI (q s)) (hq9 : ∀ s, s < 5 → q s ≤ 9)
    (hq : Q (.inl (some (.int (nI (sm (fun s => sf s * q s) 5 / sm sf 5))))) h) : X G (d + 1) mX3_mean 0 (ax_in 9 [.ref k, .int (nI r), .ref ko]) [] h Q := by
  have b1' : sm sf 5 ≤ 5 * 2 ^ 28 := sm_le (fun s hs => by have := hsf s hs; omega)
  have b2' : sm (fun s => sf s * q s) 5 ≤ 5 * (2 ^ 28 * 9) := sm_le (fun s hs => Nat.mul_le_mul (by have := hsf s hs; omega) (hq9 s hs))
  refine ax_lconst dX3_mean_0 (v := lN 0) (by decide) ?_
  refine ax_lstore_n dX3_mean_1 (Nat.le_of_ble_eq_true rfl) ?_
  refine ax_lconst dX3_mean_2 (v := lN 0) (by decide) ?_
  refine ax_lstore dX3_mean_3 (Nat.le_of_ble_eq_true rfl) ?_
  refine ax_iconst dX3_mean_5 (v := nI 0) (by decide) ?_
  refine ax_istore dX3_mean_6 (Nat.le_of_ble_eq_true rfl) ?_
  have loop : ∀ (m s : Nat) (o8 : Option Value), s + m = 5 → X G (d + 1) mX3_mean 8 [some (.ref k), some (.int (nI r)), some (.ref ko), some (.long (lN (sm sf s))), none, some (.long (lN (sm (fun s => sf s * q s) s))), none, some (.int (nI s)), o8] [] h Q := by
    intro m
    induction m with
    | zero =>
      intro s o8 hs
      obtain rfl : s = 5 := by omega
      refine ax_iload dX3_mean_8 rfl ?_
      refine ax_iconst dX3_mean_10 (v := nI 5) (by decide) ?_
      refine ax_icmp_geT 53 dX3_mean_11 (by decide) (Int32.le_refl _) ?_
      by_cases hz : sm sf 5 = 0
      · rw [hz, Nat.div_zero] at hq
        rw [hz]
        refine ax_lload_n dX3_mean_53 rfl ?_
        refine ax_lconst dX3_mean_54 (v := lN 0) (by decide) ?_
        refine ax_lcmp dX3_mean_55 ?_
        refine ax_if_leT 67 dX3_mean_56 (by decide) lg_zero ?_
        refine ax_iconst dX3_mean_67 (v := nI 0) (by decide) ?_
        exact ax_ireturn dX3_mean_68 rfl hq
      · refine ax_lload_n dX3_mean_53 rfl ?_
        refine ax_lconst dX3_mean_54 (v := lN 0) (by decide) ?_
        refine ax_lcmp dX3_mean_55 ?_
        refine ax_if_leF 67 dX3_mean_56 (by decide) (lg_pos (by omega) (by omega)) ?_
        refine ax_lload dX3_mean_59 rfl ?_
        refine ax_lload_n dX3_mean_61 rfl ?_
        refine ax_ldiv dX3_mean_62 (fun e => hz ((pk_lEQ (by omega) (by omega)).mp e)) ?_
        refine ax_topl (pk_lDiv (by omega) (by omega) (by omega)) ?_
        refine ax_l2i dX3_mean_63 ?_
        refine ax_topi (lN_i _) ?_
        refine ax_goto 68 dX3_mean_64 (by decide) ?_
        exact ax_ireturn dX3_mean_68 rfl hq
    | succ m ih =>
      intro s o8 hs
      refine ax_iload dX3_mean_8 rfl ?_
      refine ax_iconst dX3_mean_10 (v := nI 5) (by decide) ?_
      refine ax_icmp_geF 53 dX3_mean_11 (by decide) (nI_ge (by omega) (by omega)) ?_
      refine ax_aload_n dX3_mean_14 rfl ?_
      refine ax_getf dX3_mean_15 flX3_15 ek rfl ?_
      refine ax_iload_n dX3_mean_18 rfl ?_
      refine ax_iload dX3_mean_19 rfl ?_
      refine ax_cSN dX3_mean_21 mmX11_cell lnX3_70 mtX11_cell rfl rfl (Nat.le_of_ble_eq_true rfl) (Nat.le_of_ble_eq_true rfl) rfl rfl (c_cellN ⟨_, rfl, ?_⟩)
      refine ax_iald dX3_mean_24 ek_2 (ax_ix_nI (by omega) (by decide)) ?_
      rw [hS s (by omega)]
      refine ax_istore dX3_mean_25 (Nat.le_of_ble_eq_true rfl) ?_
      refine ax_lload_n dX3_mean_27 rfl ?_
      refine ax_iload dX3_mean_28 rfl ?_
      refine ax_i2l dX3_mean_30 ?_
      rw [nI_l (by have := hsf s (by omega); omega)]
      refine ax_ladd dX3_mean_31 ?_
      refine ax_lstore_n dX3_mean_32 (Nat.le_of_ble_eq_true rfl) ?_
      refine ax_lload dX3_mean_33 rfl ?_
      refine ax_iload dX3_mean_35 rfl ?_
      refine ax_i2l dX3_mean_37 ?_
      rw [nI_l (by have := hsf s (by omega); omega)]
      refine ax_aload_n dX3_mean_38 rfl ?_
      refine ax_iload dX3_mean_39 rfl ?_
      refine ax_iald dX3_mean_41 eko (ax_ix_nI (by omega) (by decide)) ?_
      rw [ho s (by omega)]
      refine ax_i2l dX3_mean_42 ?_
      rw [nI_l (by have := hq9 s (by omega); omega)]
      refine ax_lmul dX3_mean_43 ?_
      refine ax_ladd dX3_mean_44 ?_
      refine ax_lstore dX3_mean_45 (Nat.le_of_ble_eq_true rfl) ?_
      refine ax_iinc dX3_mean_47 rfl (ax_inc 1) ?_
      refine ax_goto 8 dX3_mean_50 (by decide) ?_
      rw [lN_add, lN_mul, lN_add, nI_add]
      exact ih (s + 1) _ (by omega)
  exact loop 5 0 none rfl
theorem c_stWorn {r : Nat} {H : Nat → Int32} (ek : h.2.2 k = some (eSt k year kept)) (ek_1 : h.2.2 (k + 1) = some (eI 10 H)) (hr : r < 10) (hq : Q (.inl (some (.int (b1 (¬ H r < nI 1000))))) h) : X G d mX3_isWorn 0 (ax_in 2 [.ref k, .int (nI r)]) [] h Q := by
  refine ax_aload_n dX3_isWorn_0 rfl ?_
  refine ax_getf dX3_isWorn_1 flX3_9 ek rfl ?_
  refine ax_iload_n dX3_isWorn_4 rfl ?_
  refine ax_iald dX3_isWorn_5 ek_1 (ax_ix_nI hr (by decide)) ?_
  refine ax_sipush dX3_isWorn_6 (v := nI 1000) (by decide) ?_
  refine ax_icmp_lt 16 dX3_isWorn_9 (by decide) (fun hc => ?_) (fun hc => ?_)
  · refine ax_iconst dX3_isWorn_16 (v := nI 0) (by decide) ?_
    exact ax_zreturn dX3_isWorn_17 rfl (Or.inl rfl) (by rw [b1_f (fun q => q hc)] at hq; exact hq)
  · refine ax_iconst dX3_isWorn_12 (v := nI 1) (by decide) ?_
    refine ax_goto 17 dX3_isWorn_13 (by decide) ?_
    exact ax_zreturn dX3_isWorn_17 rfl (Or.inr rfl) (by rw [b1_t hc] at hq; exact hq)
theorem c_keeps {x : Int32} (ek : h.2.2 k = some (eSt k year kept)) (hq : Q (.inl (some (.int (b1 (¬ x < 0 ∧ ¬ kept ≤ x))))) h) : X G d mX3_keeps 0 (ax_in 2 [.ref k, .int x]) [] h Q := by
  refine ax_iload_n dX3_keeps_0 rfl ?_
  refine ax_if_lt 16 dX3_keeps_1 (by decide) (fun hc => ?_) (fun hc => ?_)
  · refine ax_iconst dX3_keeps_16 (v := nI 0) (by decide) ?_
    exact ax_zreturn dX3_keeps_17 rfl (Or.inl rfl) (by rw [b1_f (fun q => q.1 hc)] at hq; exact hq)
  · refine ax_iload_n dX3_keeps_4 rfl ?_
    refine ax_aload_n dX3_keeps_5 rfl ?_
    refine ax_getf dX3_keeps_6 flX3_33 ek rfl ?_
    refine ax_icmp_ge 16 dX3_keeps_9 (by decide) (fun hd => ?_) (fun hd => ?_)
    · refine ax_iconst dX3_keeps_16 (v := nI 0) (by decide) ?_
      exact ax_zreturn dX3_keeps_17 rfl (Or.inl rfl) (by rw [b1_f (fun q => q.2 hd)] at hq; exact hq)
    · refine ax_iconst dX3_keeps_12 (v := nI 1) (by decide) ?_
      refine ax_goto 17 dX3_keeps_13 (by decide) ?_
      exact ax_zreturn dX3_keeps_17 rfl (Or.inr rfl) (by rw [b1_t ⟨hc, hd⟩] at hq; exact hq)
theorem c_layerCell {y r s : Nat} (hq : Q (.inl (some (.int (nI (50 * y + (5 * r + s)))))) h) : X G (d + 1) mX3_layerCell 0 (ax_in 3 [.int (nI y), .int (nI r), .int (nI s)]) [] h Q := by
  refine ax_iload_n dX3_layerCell_0 rfl ?_
  refine ax_bipush dX3_layerCell_1 (v := nI 10) (by decide) ?_
  refine ax_imul dX3_layerCell_3 ?_
  refine ax_iconst dX3_layerCell_4 (v := nI 5) (by decide) ?_
  refine ax_imul dX3_layerCell_5 ?_
  refine ax_iload_n dX3_layerCell_6 rfl ?_
  refine ax_iload_n dX3_layerCell_7 rfl ?_
  refine ax_cSN dX3_layerCell_8 mmX11_cell lnX3_70 mtX11_cell rfl rfl (Nat.le_of_ble_eq_true rfl) (Nat.le_of_ble_eq_true rfl) rfl rfl (c_cellN ⟨_, rfl, ?_⟩)
  refine ax_iadd dX3_layerCell_11 ?_
  refine ax_topi (y := nI (50 * y + (5 * r + s))) (by rw [pk_mul, pk_mul, nI_add]; congr 1; omega) ?_
  exact ax_ireturn dX3_layerCell_12 rfl hq
/-- keepLayer: the row of layers takes the number, if the year is one of those kept -/
theorem c_keepLayer {r s kp y n : Nat} {v : Int32} {L : Nat → Int32} (ek : h.2.2 k = some (eSt k (nI y) (nI kp))) (ek_8 : h.2.2 (k + 8) = some (eI n L)) (hn : n = kp * 50) (hkp : kp ≤ 40) (hy : y < 2 ^ 30) (hr : r < 10) (hs : s < 5) (hq : Q (.inl none) (if y < kp then ax_wr h (k + 8) (eI n (upd L (50 * y + (5 * r + s)) v)) else h)) : X G (d + 2) mX3_keepLayer 0 (ax_in 4 [.ref k, .int (nI r), .int (nI s), .int v]) [] h Q := by
  subst hn
  refine ax_aload_n dX3_keepLayer_0 rfl ?_
  refine ax_aload_n dX3_keepLayer_1 rfl ?_
  refine ax_getf dX3_keepLayer_2 flX3_40 ek rfl ?_
  refine ax_cV dX3_keepLayer_5 mmX3_keeps lkX3_73 miX3_keeps msX3_keeps (ax_recv_of ek rfl) rfl rfl (Nat.le_of_ble_eq_true rfl) (Nat.le_of_ble_eq_true rfl) rfl rfl (c_keeps ek ⟨_, rfl, ?_⟩)
  by_cases hc : y < kp
  · rw [if_pos hc] at hq
    rw [b1_t ⟨nI_pos (by omega), nI_ge hc (by omega)⟩]
    refine ax_if_eqF 26 dX3_keepLayer_8 (by decide) (by decide) ?_
    refine ax_aload_n dX3_keepLayer_11 rfl ?_
    refine ax_getf dX3_keepLayer_12 flX3_37 ek rfl ?_
    refine ax_aload_n dX3_keepLayer_15 rfl ?_
    refine ax_getf dX3_keepLayer_16 flX3_40 ek rfl ?_
    refine ax_iload_n dX3_keepLayer_19 rfl ?_
    refine ax_iload_n dX3_keepLayer_20 rfl ?_
    refine ax_cS dX3_keepLayer_21 mmX3_layerCell lkX3_77 mtX3_layerCell rfl rfl (Nat.le_of_ble_eq_true rfl) (Nat.le_of_ble_eq_true rfl) rfl rfl (c_layerCell ⟨_, rfl, ?_⟩)
    refine ax_iload_n dX3_keepLayer_24 rfl ?_
    refine ax_iast dX3_keepLayer_25 ek_8 (ax_ix_nI (by omega) (by omega)) ?_
    exact ax_return dX3_keepLayer_26 rfl hq
  · rw [if_neg hc] at hq
    rw [b1_f (fun q => q.2 (nI_le (by omega) (by omega)))]
    refine ax_if_eqT 26 dX3_keepLayer_8 (by decide) rfl ?_
    exact ax_return dX3_keepLayer_26 rfl hq
end ST
