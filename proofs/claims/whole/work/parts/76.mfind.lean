section MF1
variable {G : ax_G} {d : Nat} {h : ax_H} {Q : ax_O → ax_H → Prop} {N : Nt} {σ : Sd}
variable {th ta si pt fa co nm rd ask nw os sw bc bm : Int32} {gg : Int64} {F S O A : Nat → Int32}
/-- the trades as the model reads them -/
def TdI (F : Nat → Int32) (os : Int32) (T : Nat) (tr : Nat → Nat → Nat) : Prop := ∀ t, t < T → ∀ i, i < 4 → tdF F os t i = nI (tr i t)
def fwP : Nat → Prop := fun j => j = 145 ∨ j = 157 ∨ j = 158 ∨ j = 161 ∨ j = 162 ∨ j = 163
def fwB (N : Nt) (σ : Sd) (tr : Nat → Nat → Nat) (t : Nat) : Prop := (wy N (pv N σ (tr 3 t)) (tr 0 t) (tr 1 t)).2 = some (tr 1 t)
abbrev fwD (N : Nt) (σ : Sd) (tr : Nat → Nat → Nat) (t : Nat) : Decidable (fwB N σ tr t) := inferInstanceAs (Decidable ((wy N (pv N σ (tr 3 t)) (tr 0 t) (tr 1 t)).2 = some (tr 1 t)))
def fwS (N : Nt) (σ : Sd) (tr : Nat → Nat → Nat) (t : Nat) : Nat × List Nat := if (wy N (pv N σ (tr 3 t)) (tr 0 t) (tr 1 t)).2 = some (tr 1 t) then ((bfN N (pv N σ (tr 3 t)) (tr 1 t) 7).1 (tr 0 t), (wy N (pv N σ (tr 3 t)) (tr 0 t) (tr 1 t)).1) else (1600000000, [])
theorem nOK.okE (hN : nOK N) : okE N := fun r hr => by
  obtain ⟨a, b, c, -⟩ := hN.2.2.2.2.2.1 r hr
  have := hN.2.1
  exact ⟨by omega, by omega, c⟩
theorem pv_ok {ld : Nat} (r : Nat) : 1 ≤ pv N σ ld r ∧ (decide (1000 ≤ σ 1 r) = true → pv N σ ld r = 536870912) ∧ (decide (1000 ≤ σ 1 r) = false → pv N σ ld r ≤ 159985) := by
  have hpr := (cl_eq (a := 1) (b := 9999) (by decide) (by decide) (ev (N.2 0) (fc (N.1 5 r) (σ 1 r) (mn σ (N.1 1) r) (mn σ (N.1 2) r) ld 0 0 0))).2
  have hpr1 : 1 ≤ price N σ r ld ∧ price N σ r ld ≤ 9999 := hpr
  unfold pv
  by_cases hc : 1000 ≤ σ 1 r
  · rw [if_pos hc]
    exact ⟨by omega, fun _ => rfl, fun q => by rw [decide_eq_true hc] at q; cases q⟩
  · rw [if_neg hc]
    exact ⟨by omega, fun q => absurd (of_decide_eq_true q) hc, fun _ => by omega⟩
theorem fw_gdS {T t : Nat} {tr : Nat → Nat → Nat} (hN : nOK N) (htr : trOK N T tr) (ht : t < T) : gdS N (pv N σ (tr 3 t)) (fun r => decide (1000 ≤ σ 1 r)) (tr 1 t) 7 (tr 0 t) (1 <<< tr 0 t) [] 0 (1600000000, []) = fwS N σ tr t ∧ ((wy N (pv N σ (tr 3 t)) (tr 0 t) (tr 1 t)).2 = some (tr 1 t) → (fwS N σ tr t).1 < 1200000) := by
  obtain ⟨q1, q2, -⟩ := htr.2 t ht
  have := hN.2.1
  unfold fwS
  rcases gdS_wy (t := tr 1 t) (w := fun r => decide (1000 ≤ σ 1 r)) (p := pv N σ (tr 3 t)) hN.okE (fun r => (pv_ok r).1) (fun r => (pv_ok r).2.1) (fun r _ => (pv_ok r).2.2) (a := tr 0 t) (by omega) with ⟨a, b, c⟩ | ⟨a, c⟩
  · rw [if_pos a]
    exact ⟨c, fun _ => b⟩
  · rw [if_neg a]
    exact ⟨c, fun z => absurd z a⟩
theorem fwS_road {t : Nat} {tr : Nat → Nat → Nat} (hN : nOK N) : ∀ r ∈ (fwS N σ tr t).2, r < nR N := by
  unfold fwS
  split
  · intro r hr; exact (wy_un hr).2
  · intro r hr; cases hr
theorem k_findWay {T t : Nat} {tr : Nat → Nat → Nat} (ht : t < T) (htr : trOK N T tr) (hTd : TdI F os T tr) (hN : nOK N) (hO : sOK N σ) (hF : FnB F N) (hL : FnL F O A N) (hS : Sb S N σ) (hM : MC h F S O A) (a161 : anA h 161 10) (a162 : anA h 162 10) (a163 : anA h 163 10) (e145 : h.2.2 145 = some (eM th ta si pt fa co nm rd ask nw os sw bc bm gg))
    (hq : ∀ h', But h h' fwP → MC h' F S O A → anA h' 161 10 → anA h' 162 10 → GI h' th ta si pt fa co nm rd ask nw os sw gg (fwS N σ tr t) → Q (.inl (some (.int (b1 ((wy N (pv N σ (tr 3 t)) (tr 0 t) (tr 1 t)).2 = some (tr 1 t)))))) h') : X G (d + 9) mX12_findWay 0 (ax_in 3 [.ref 145, .int (nI t)]) [] h Q := by
  have hR10 := hN.2.2.1
  have hT6 := htr.1
  have f2 := hF.2.2.1
  obtain ⟨q0, q1, q2, q3, -⟩ := htr.2 t ht
  have hPl := hN.2.1
  have loop : ∀ (m i : Nat) (Cf : Nat → Int32) (h1 : ax_H), i + m = nR N → But h h1 fwP → MC h1 F S O A → h1.2.2 145 = some (eM th ta si pt fa co nm rd ask nw os sw bc bm gg) → h1.2.2 161 = some (eI 10 Cf) → (∀ r, r < i → Cf r = nI (price N σ r (tr 3 t))) → anA h1 162 10 → anA h1 163 10 → X G (d + 9) mX12_findWay 2 [some (.ref 145), some (.int (nI t)), some (.int (nI i))] [] h1 Q := by
    intro m
    induction m with
    | zero =>
      intro i Cf h1 hi hb hM1 e145 e161 hC a162 a163
      obtain rfl : i = nR N := by omega
      obtain ⟨e151, e152, e153, e159, a157, a158⟩ := id hM1
      obtain ⟨Rf, e162⟩ := id a162
      obtain ⟨Bf, e163⟩ := id a163
      refine ax_iload_n dX12_findWay_2 rfl ?_
      refine ax_aload_n dX12_findWay_3 rfl ?_
      refine ax_cV dX12_findWay_4 mmX12_roads lkX12_194 miX12_roads msX12_roads (ax_recv_of e145 rfl) rfl rfl (Nat.le_of_ble_eq_true rfl) (Nat.le_of_ble_eq_true rfl) rfl rfl (k_roads e145 e151 ⟨_, rfl, ?_⟩)
      rw [f2]
      refine ax_icmp_geT 33 dX12_findWay_7 (by decide) (Int32.le_refl _) ?_
      refine ax_aload_n dX12_findWay_33 rfl ?_
      refine ax_ldcw dX12_findWay_34 cnX12_300 ?_
      refine ax_putf dX12_findWay_37 flX12_301 e145 (Nat.le_of_ble_eq_true rfl) (fun _ => ⟨rfl, rfl⟩) ?_
      refine ax_aload_n dX12_findWay_40 rfl ?_
      refine ax_iconst dX12_findWay_41 (v := nI 0) (by decide) ?_
      refine ax_putf dX12_findWay_42 flX12_304 ax_wr_eq (Nat.le_of_ble_eq_true rfl) (fun _ => ⟨rfl, rfl⟩) ?_
      rw [ax_wr_wr]
      refine ax_hp (h1 := ax_wr h1 145 (eM th ta si pt fa co nm rd ask nw os sw (nI (1600000000 / 16)) (nI 0) gg)) rfl ?_
      have hbw : But h (ax_wr h1 145 (eM th ta si pt fa co nm rd ask nw os sw (nI (1600000000 / 16)) (nI 0) gg)) fwP := hb.wr (Or.inl rfl)
      have hMw : MC (ax_wr h1 145 (eM th ta si pt fa co nm rd ask nw os sw (nI (1600000000 / 16)) (nI 0) gg)) F S O A := ⟨(ax_wr_ne (by decide)).trans e151, (ax_wr_ne (by decide)).trans e152, (ax_wr_ne (by decide)).trans e153, (ax_wr_ne (by decide)).trans e159, a157.kept (ax_wr_ne (by decide)), a158.kept (ax_wr_ne (by decide))⟩
      have hGw : GI (ax_wr h1 145 (eM th ta si pt fa co nm rd ask nw os sw (nI (1600000000 / 16)) (nI 0) gg)) th ta si pt fa co nm rd ask nw os sw gg (1600000000, []) := ⟨ax_wr_eq, by decide, by decide, by decide, Bf, (ax_wr_ne (by decide)).trans e163, fun j hj => absurd hj (Nat.not_lt_zero _)⟩
      have hRw : RwI (ax_wr h1 145 (eM th ta si pt fa co nm rd ask nw os sw (nI (1600000000 / 16)) (nI 0) gg)) [] := ⟨Rf, (ax_wr_ne (by decide)).trans e162, fun j hj => absurd hj (Nat.not_lt_zero _)⟩
      have e161w : (ax_wr h1 145 (eM th ta si pt fa co nm rd ask nw os sw (nI (1600000000 / 16)) (nI 0) gg)).2.2 161 = some (eI 10 Cf) := (ax_wr_ne (by decide)).trans e161
      generalize ax_wr h1 145 (eM th ta si pt fa co nm rd ask nw os sw (nI (1600000000 / 16)) (nI 0) gg) = h2 at hbw hMw hGw hRw e161w ⊢
      obtain ⟨e151, e152, e153, e159, a157, a158⟩ := id hMw
      have e145 := hGw.1
      refine ax_aload_n dX12_findWay_45 rfl ?_
      refine ax_aload_n dX12_findWay_46 rfl ?_
      refine ax_iload_n dX12_findWay_47 rfl ?_
      refine ax_iconst dX12_findWay_48 (v := nI 0) (by decide) ?_
      refine ax_cV dX12_findWay_49 mmX12_tradeOf lkX12_294 miX12_tradeOf msX12_tradeOf (ax_recv_of e145 rfl) rfl rfl (Nat.le_of_ble_eq_true rfl) (Nat.le_of_ble_eq_true rfl) rfl rfl (k_tradeOf (i := 0) (by omega) (by omega) e145 e151 ⟨_, rfl, ?_⟩)
      rw [hTd t ht 0 (by omega)]
      refine ax_aload_n dX12_findWay_52 rfl ?_
      refine ax_iload_n dX12_findWay_53 rfl ?_
      refine ax_iconst dX12_findWay_54 (v := nI 1) (by decide) ?_
      refine ax_cV dX12_findWay_55 mmX12_tradeOf lkX12_294 miX12_tradeOf msX12_tradeOf (ax_recv_of e145 rfl) rfl rfl (Nat.le_of_ble_eq_true rfl) (Nat.le_of_ble_eq_true rfl) rfl rfl (k_tradeOf (i := 1) (by omega) (by omega) e145 e151 ⟨_, rfl, ?_⟩)
      rw [hTd t ht 1 (by omega)]
      refine ax_iconst dX12_findWay_58 (v := nI 1) (by decide) ?_
      refine ax_aload_n dX12_findWay_59 rfl ?_
      refine ax_iload_n dX12_findWay_60 rfl ?_
      refine ax_iconst dX12_findWay_61 (v := nI 0) (by decide) ?_
      refine ax_cV dX12_findWay_62 mmX12_tradeOf lkX12_294 miX12_tradeOf msX12_tradeOf (ax_recv_of e145 rfl) rfl rfl (Nat.le_of_ble_eq_true rfl) (Nat.le_of_ble_eq_true rfl) rfl rfl (k_tradeOf (i := 0) (by omega) (by omega) e145 e151 ⟨_, rfl, ?_⟩)
      rw [hTd t ht 0 (by omega)]
      refine ax_ishl dX12_findWay_65 ?_
      rw [bt_1 (tr 0 t) (by omega)]
      refine ax_iconst dX12_findWay_66 (v := nI 0) (by decide) ?_
      refine ax_iconst dX12_findWay_67 (v := nI 0) (by decide) ?_
      have hcn : cn (1 <<< tr 0 t) + 1 = 7 ∧ 1 <<< tr 0 t < 128 := by
        have hz : ∀ a : Nat, a < 7 → cn (1 <<< a) + 1 = 7 ∧ 1 <<< a < 128 := by decide +kernel
        exact hz (tr 0 t) (by omega)
      refine ax_cV dX12_findWay_68 mmX12_goesOn lkX12_307 miX12_goesOn msX12_goesOn (ax_recv_of e145 rfl) rfl rfl (Nat.le_of_ble_eq_true rfl) (Nat.le_of_ble_eq_true rfl) rfl rfl (k_goesOn (d := d) (ld := tr 3 t) (by omega) hN hF hS (fun r hr => by have := hO.1 r (by omega); omega) hC 7 (tr 0 t) (1 <<< tr 0 t) [] 0 (1600000000, []) h2 _ (by omega) hcn.2 hcn.1.symm (by decide) (by decide) (by decide) e151 e159 e161w hGw hRw (fun h3 hb3 hG3 hR3 => ⟨_, rfl, ?_⟩))
      rw [(fw_gdS hN htr ht).1] at hG3
      have hlt := (fw_gdS (σ := σ) hN htr ht).2
      have kp3 : ∀ j, ¬ goP j → h3.2.2 j = h2.2.2 j := fun j z => hb3.2.2 j z
      have hM3 : MC h3 F S O A := ⟨(kp3 151 (by unfold goP; omega)).trans e151, (kp3 152 (by unfold goP; omega)).trans e152, (kp3 153 (by unfold goP; omega)).trans e153, (kp3 159 (by unfold goP; omega)).trans e159, a157.kept (kp3 157 (by unfold goP; omega)), a158.kept (kp3 158 (by unfold goP; omega))⟩
      have hq3 := hq h3 (hbw.tr (hb3.wide (fun j z => by unfold goP at z; unfold fwP; omega))) hM3 ⟨Cf, (kp3 161 (by unfold goP; omega)).trans e161w⟩ (by obtain ⟨Rf3, z, -⟩ := hR3; exact ⟨Rf3, z⟩) hG3
      have e145 := hG3.1
      by_cases hfd : (wy N (pv N σ (tr 3 t)) (tr 0 t) (tr 1 t)).2 = some (tr 1 t)
      · rw [b1_t hfd] at hq3
        refine ax_aload_n dX12_findWay_71 rfl ?_
        refine ax_getf dX12_findWay_72 flX12_301 e145 rfl ?_
        refine ax_ldcw dX12_findWay_75 cnX12_300 ?_
        refine ax_icmp_geF 85 dX12_findWay_78 (by decide) (by have := hlt hfd; exact nI_ge (b := 100000000) (by omega) (by decide)) ?_
        refine ax_iconst dX12_findWay_81 (v := nI 1) (by decide) ?_
        refine ax_goto 86 dX12_findWay_82 (by decide) ?_
        exact ax_zreturn dX12_findWay_86 rfl ((Or.inr rfl)) hq3
      · rw [b1_f hfd] at hq3
        have hz : (fwS N σ tr t).1 = 1600000000 := by unfold fwS; rw [if_neg hfd]
        refine ax_aload_n dX12_findWay_71 rfl ?_
        refine ax_getf dX12_findWay_72 flX12_301 e145 rfl ?_
        refine ax_ldcw dX12_findWay_75 cnX12_300 ?_
        refine ax_icmp_geT 85 dX12_findWay_78 (by decide) (by rw [hz]; decide) ?_
        refine ax_iconst dX12_findWay_85 (v := nI 0) (by decide) ?_
        exact ax_zreturn dX12_findWay_86 rfl ((Or.inl rfl)) hq3
    | succ m ih =>
      intro i Cf h1 hi hb hM1 e145 e161 hC a162 a163
      obtain ⟨e151, e152, e153, e159, a157, a158⟩ := id hM1
      refine ax_iload_n dX12_findWay_2 rfl ?_
      refine ax_aload_n dX12_findWay_3 rfl ?_
      refine ax_cV dX12_findWay_4 mmX12_roads lkX12_194 miX12_roads msX12_roads (ax_recv_of e145 rfl) rfl rfl (Nat.le_of_ble_eq_true rfl) (Nat.le_of_ble_eq_true rfl) rfl rfl (k_roads e145 e151 ⟨_, rfl, ?_⟩)
      rw [f2]
      refine ax_icmp_geF 33 dX12_findWay_7 (by decide) (nI_ge (by omega) (by omega)) ?_
      refine ax_aload_n dX12_findWay_10 rfl ?_
      refine ax_getf dX12_findWay_11 flX12_112 e145 rfl ?_
      refine ax_iload_n dX12_findWay_14 rfl ?_
      refine ax_aload_n dX12_findWay_15 rfl ?_
      refine ax_iload_n dX12_findWay_16 rfl ?_
      refine ax_aload_n dX12_findWay_17 rfl ?_
      refine ax_iload_n dX12_findWay_18 rfl ?_
      refine ax_iconst dX12_findWay_19 (v := nI 3) (by decide) ?_
      refine ax_cV dX12_findWay_20 mmX12_tradeOf lkX12_294 miX12_tradeOf msX12_tradeOf (ax_recv_of e145 rfl) rfl rfl (Nat.le_of_ble_eq_true rfl) (Nat.le_of_ble_eq_true rfl) rfl rfl (k_tradeOf (i := 3) (by omega) (by omega) e145 e151 ⟨_, rfl, ?_⟩)
      rw [hTd t ht 3 (by omega)]
      refine ax_cV dX12_findWay_23 mmX12_costOf lkX12_297 miX12_costOf msX12_costOf (ax_recv_of e145 rfl) rfl rfl (Nat.le_of_ble_eq_true rfl) (Nat.le_of_ble_eq_true rfl) rfl rfl (k_costOf (d := d + 5) (by omega) hN hO hF hL hS hM1 e145 (fun h2 hb2 hM2 => ⟨_, rfl, ?_⟩))
      have kp2 : ∀ j, ¬ mfP j → h2.2.2 j = h1.2.2 j := fun j z => hb2.2.2 j z
      have e145 := (kp2 145 (by unfold mfP; omega)).trans e145
      have e161 := (kp2 161 (by unfold mfP; omega)).trans e161
      refine ax_iast dX12_findWay_26 e161 (ax_ix_nI (j := i) (by omega) (by decide)) ?_
      refine ax_iinc dX12_findWay_27 rfl (ax_inc 1) ?_
      refine ax_goto 2 dX12_findWay_30 (by decide) ?_
      rw [nI_add i 1]
      obtain ⟨m1, m2, m3, m4, m5, m6⟩ := hM2
      refine ih (i + 1) _ _ (by omega) ((hb.tr (hb2.wide (fun j z => by unfold mfP at z; unfold fwP; omega))).wr (by unfold fwP; omega)) ⟨(ax_wr_ne (by decide)).trans m1, (ax_wr_ne (by decide)).trans m2, (ax_wr_ne (by decide)).trans m3, (ax_wr_ne (by decide)).trans m4, m5.kept (ax_wr_ne (by decide)), m6.kept (ax_wr_ne (by decide))⟩ ((ax_wr_ne (by decide)).trans e145) ax_wr_eq (fun r hr => ?_) (a162.kept ((ax_wr_ne (by decide)).trans (kp2 162 (by unfold mfP; omega)))) (a163.kept ((ax_wr_ne (by decide)).trans (kp2 163 (by unfold mfP; omega))))
      by_cases hri : r = i
      · rw [hri]; exact pk_us
      · rw [pk_un hri]; exact hC r (by omega)
  obtain ⟨Cf, e161⟩ := a161
  refine ax_iconst dX12_findWay_0 (v := nI 0) (by decide) ?_
  refine ax_istore_n dX12_findWay_1 (Nat.le_of_ble_eq_true rfl) ?_
  exact loop (nR N) 0 Cf h (by omega) But.rf hM e145 e161 (fun r hr => absurd hr (Nat.not_lt_zero _)) a162 a163
end MF1
