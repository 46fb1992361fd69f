section SV2
variable {G : ax_G} {d : Nat} {h : ax_H} {Q : ax_O → ax_H → Prop} {N : Nt} {σ : Sd}
/-- the heap is as before but for the survey's rows from 132 on to 'top' -/
def Same (h h' : ax_H) (lo hi : Nat) : Prop := h'.1 = h.1 ∧ h'.2.1 = h.2.1 ∧ ∀ k, (k < lo ∨ hi < k) → h'.2.2 k = h.2.2 k
theorem Same.rfl' {lo hi : Nat} : Same h h lo hi := ⟨rfl, rfl, fun _ _ => rfl⟩
theorem Same.wr {h' : ax_H} {lo hi k : Nat} {e : ax_E} (a : Same h h' lo hi) (h1 : lo ≤ k) (h2 : k ≤ hi) : Same h (ax_wr h' k e) lo hi := ⟨a.1, a.2.1, fun j hj => (ax_wr_ne (by omega)).trans (a.2.2 j hj)⟩
theorem Same.tr {h' h'' : ax_H} {lo hi : Nat} (a : Same h h' lo hi) (b : Same h' h'' lo hi) : Same h h'' lo hi := ⟨b.1.trans a.1, b.2.1.trans a.2.1, fun j hj => (b.2.2 j hj).trans (a.2.2 j hj)⟩
theorem Same.wide {h' : ax_H} {lo hi lo' hi' : Nat} (a : Same h h' lo hi) (h1 : lo' ≤ lo) (h2 : hi ≤ hi') : Same h h' lo' hi' := ⟨a.1, a.2.1, fun j hj => a.2.2 j (by omega)⟩
theorem Seen.scr {h' : ax_H} (hS : Seen h N σ) (hm : Same h h' 132 133) (a1 : anA h' 132 8) (a2 : anA h' 133 32) : Seen h' N σ := by
  obtain ⟨e131, -, -, a3, a4, a5, f, e137, hf⟩ := hS
  exact ⟨(hm.2.2 131 (by omega)).trans e131, a1, a2, a3.kept (hm.2.2 _ (by omega)), a4.kept (hm.2.2 _ (by omega)), a5.kept (hm.2.2 _ (by omega)), f, (hm.2.2 _ (by omega)).trans e137, hf⟩
theorem c_svWorn {r : Nat} (hr : r < nR N) (hN : nOK N) (hS : Seen h N σ) (hb : σ 1 r < 100000) (hq : Q (.inl (some (.int (b1 (1000 ≤ σ 1 r))))) h) : X G d mX4_isWorn 0 (ax_in 2 [.ref 131, .int (nI r)]) [] h Q := by
  obtain ⟨e131, -, -, ⟨H, e134, hH⟩, -⟩ := hS
  have := hN.2.2.1
  refine ax_aload_n dX4_isWorn_0 rfl ?_
  refine ax_getf dX4_isWorn_1 flX4_18 e131 rfl ?_
  refine ax_iload_n dX4_isWorn_4 rfl ?_
  refine ax_iald dX4_isWorn_5 e134 (ax_ix_nI (by omega) (by decide)) ?_
  rw [hH r hr]
  refine ax_sipush dX4_isWorn_6 (v := nI 1000) (by decide) ?_
  by_cases hc : 1000 ≤ σ 1 r
  · rw [b1_t hc] at hq
    refine ax_icmp_ltF 16 dX4_isWorn_9 (by decide) (nI_nlt hc (by omega)) ?_
    refine ax_iconst dX4_isWorn_12 (v := nI 1) (by decide) ?_
    refine ax_goto 17 dX4_isWorn_13 (by decide) ?_
    exact ax_zreturn dX4_isWorn_17 rfl (Or.inr rfl) hq
  · rw [b1_f hc] at hq
    refine ax_icmp_ltT 16 dX4_isWorn_9 (by decide) (nI_lt (by omega) (by omega)) ?_
    refine ax_iconst dX4_isWorn_16 (v := nI 0) (by decide) ?_
    exact ax_zreturn dX4_isWorn_17 rfl (Or.inl rfl) hq
theorem c_priceOf {r ld : Nat} (hr : r < nR N) (hN : nOK N) (hL : Land h N) (hS : Seen h N σ) (hq : ∀ h', Same h h' 132 133 → Seen h' N σ → Q (.inl (some (.int (nI (price N σ r ld))))) h') : X G (d + 2) mX4_priceOf 0 (ax_in 3 [.ref 131, .int (nI r), .int (nI ld)]) [] h Q := by
  obtain ⟨⟨co, hl, e89, -⟩, -, -, -, -, ⟨L, e96, hLg⟩, -, -, -, -, -, ⟨C, LB, LE, e103, e104, e105, hlw⟩⟩ := hL
  obtain ⟨e131, ⟨F, e132⟩, ⟨K, e133⟩, ⟨H, e134, hH⟩, ⟨hd', e135, hhd⟩, ⟨sf', e136, hsf⟩, hsh⟩ := id hS
  have hr10 : r < 10 := by have := hN.2.2.1; omega
  obtain ⟨b, l1, l2, l3, l4⟩ := hlw 0 (by decide)
  obtain ⟨-, -, -, -, -, -, -, hok, hf0, -⟩ := hN
  have hok := hok (by omega)
  refine ax_aload_n dX4_priceOf_0 rfl ?_
  refine ax_iload_n dX4_priceOf_1 rfl ?_
  refine ax_cV dX4_priceOf_2 mmX4_setRoad lkX4_55 miX4_setRoad msX4_setRoad (ax_recv_of e131 rfl) rfl rfl (Nat.le_of_ble_eq_true rfl) (Nat.le_of_ble_eq_true rfl) rfl rfl (c_setRoad hr10 e131 e89 e96 e132 e134 e135 e136 ⟨_, rfl, ?_⟩)
  refine ax_aload_n dX4_priceOf_5 rfl ?_
  refine ax_getf dX4_priceOf_6 flX4_9 ((ax_wr_ne (by decide)).trans (e131)) rfl ?_
  refine ax_iconst dX4_priceOf_9 (v := nI 4) (by decide) ?_
  refine ax_iload_n dX4_priceOf_10 rfl ?_
  refine ax_iast dX4_priceOf_11 ax_wr_eq (ax_ix_nI (j := 4) (by decide) (by decide)) ?_
  rw [ax_wr_wr]
  refine ax_iconst dX4_priceOf_12 (v := nI 1) (by decide) ?_
  refine ax_aload_n dX4_priceOf_13 rfl ?_
  refine ax_iconst dX4_priceOf_14 (v := nI 0) (by decide) ?_
  refine ax_cV dX4_priceOf_15 mmX4_value lkX4_59 miX4_value msX4_value (ax_recv_of ((ax_wr_ne (by decide)).trans (e131)) rfl) rfl rfl (Nat.le_of_ble_eq_true rfl) (Nat.le_of_ble_eq_true rfl) rfl rfl (c_value (l := 0) (by decide) (hok 0 (by decide)) l1 l2 l3 l4 (by rw [ax_wr_ne (by decide)]; exact e131) (by rw [ax_wr_ne (by decide)]; exact e89) (by rw [ax_wr_ne (by decide)]; exact e103) (by rw [ax_wr_ne (by decide)]; exact e104) (by rw [ax_wr_ne (by decide)]; exact e105) ax_wr_eq (by rw [ax_wr_ne (by decide)]; exact e133) (fun K' => ⟨_, rfl, ?_⟩))
  rw [ev_congM (F' := fc (N.1 5 r) (σ 1 r) (mn σ (N.1 1) r) (mn σ (N.1 2) r) ld 0 0 0) (fun c hc h8 => by
    have := hf0 c hc h8
    have h5 : c = 0 ∨ c = 1 ∨ c = 2 ∨ c = 3 ∨ c = 4 := by omega
    rcases h5 with rfl | rfl | rfl | rfl | rfl <;> simp [upd, fc, hLg r hr, hH r hr, hhd r hr, hsf r hr])]
  refine ax_sipush dX4_priceOf_18 (v := nI 9999) (by decide) ?_
  refine ax_cSN dX4_priceOf_21 mmX11_within lnX4_63 mtX11_within rfl rfl (Nat.le_of_ble_eq_true rfl) (Nat.le_of_ble_eq_true rfl) rfl rfl (c_within ⟨_, rfl, ?_⟩)
  rw [(cl_eq (by decide) (by decide) _).1]
  have hSm := (Same.rfl' (h := h) (lo := 132) (hi := 133)).wr (k := 132) (e := eI 8 (upd (upd (upd (upd (upd F 0 (L r)) 1 (H r)) 2 (hd' r)) 3 (sf' r)) 4 (nI ld))) (by decide) (by decide) |>.wr (k := 133) (e := eI 32 K') (by decide) (by decide)
  exact ax_ireturn dX4_priceOf_24 rfl (hq _ hSm (hS.scr hSm ⟨_, (ax_wr_ne (by decide)).trans ax_wr_eq⟩ ⟨_, ax_wr_eq⟩))
theorem c_shockOf {r s : Nat} (hr : r < nR N) (hs : s < nS N) (hN : nOK N) (hL : Land h N) (hS : Seen h N σ) (hq : ∀ h', Same h h' 132 137 → Seen h' N σ → Q (.inl (some (.int (nI (shock N σ r s))))) h') : X G (d + 2) mX4_shockOf 0 (ax_in 4 [.ref 131, .int (nI r), .int (nI s)]) [] h Q := by
  obtain ⟨⟨co, hl, e89, -⟩, -, ⟨so, e93, hso⟩, -, -, ⟨L, e96, hLg⟩, -, -, -, -, -, ⟨C, LB, LE, e103, e104, e105, hlw⟩⟩ := hL
  obtain ⟨e131, ⟨F, e132⟩, ⟨K, e133⟩, ⟨H, e134, hH⟩, ⟨hd', e135, hhd⟩, ⟨sf', e136, hsf⟩, ⟨f, e137, hf⟩⟩ := id hS
  have hr10 : r < 10 := by have := hN.2.2.1; omega
  have hs5 : s < 5 := by have := hN.1; omega
  obtain ⟨b, l1, l2, l3, l4⟩ := hlw 1 (by decide)
  obtain ⟨hn1, -, -, -, hhs, -, -, hok, -, hf1, -⟩ := hN
  have hok := hok (by omega)
  refine ax_iload_n dX4_shockOf_0 rfl ?_
  refine ax_iload_n dX4_shockOf_1 rfl ?_
  refine ax_cSN dX4_shockOf_2 mmX11_cell lnX4_67 mtX11_cell rfl rfl (Nat.le_of_ble_eq_true rfl) (Nat.le_of_ble_eq_true rfl) rfl rfl (c_cellN ⟨_, rfl, ?_⟩)
  refine ax_istore_n dX4_shockOf_5 (Nat.le_of_ble_eq_true rfl) ?_
  refine ax_aload_n dX4_shockOf_6 rfl ?_
  refine ax_getf dX4_shockOf_7 flX4_27 e131 rfl ?_
  refine ax_iload_n dX4_shockOf_10 rfl ?_
  refine ax_iald dX4_shockOf_11 e137 (ax_ix_nI (by omega) (by decide)) ?_
  refine ax_iconst dX4_shockOf_12 (v := -1) (by decide) ?_
  rcases hf r s hr hs with hm | hm
  · rw [hm]
    refine ax_icmp_neF 56 dX4_shockOf_13 (by decide) rfl ?_
    refine ax_aload_n dX4_shockOf_16 rfl ?_
    refine ax_iload_n dX4_shockOf_17 rfl ?_
    refine ax_cV dX4_shockOf_18 mmX4_setRoad lkX4_55 miX4_setRoad msX4_setRoad (ax_recv_of e131 rfl) rfl rfl (Nat.le_of_ble_eq_true rfl) (Nat.le_of_ble_eq_true rfl) rfl rfl (c_setRoad hr10 e131 e89 e96 e132 e134 e135 e136 ⟨_, rfl, ?_⟩)
    refine ax_aload_n dX4_shockOf_21 rfl ?_
    refine ax_getf dX4_shockOf_22 flX4_9 ((ax_wr_ne (by decide)).trans (e131)) rfl ?_
    refine ax_iconst dX4_shockOf_25 (v := nI 5) (by decide) ?_
    refine ax_bipush dX4_shockOf_26 (v := nI 9) (by decide) ?_
    refine ax_aload_n dX4_shockOf_28 rfl ?_
    refine ax_getf dX4_shockOf_29 flX4_30 ((ax_wr_ne (by decide)).trans (e131)) rfl ?_
    refine ax_getf dX4_shockOf_32 flX4_48 ((ax_wr_ne (by decide)).trans (e89)) rfl ?_
    refine ax_iload_n dX4_shockOf_35 rfl ?_
    refine ax_iald dX4_shockOf_36 ((ax_wr_ne (by decide)).trans (e93)) (ax_ix_nI hs5 (by decide)) ?_
    rw [hso s hs5]
    refine ax_isub dX4_shockOf_37 ?_
    rw [pk_sub (hhs s hs5).2]
    refine ax_iast dX4_shockOf_38 ax_wr_eq (ax_ix_nI (j := 5) (by decide) (by decide)) ?_
    rw [ax_wr_wr]
    refine ax_aload_n dX4_shockOf_39 rfl ?_
    refine ax_getf dX4_shockOf_40 flX4_27 ((ax_wr_ne (by decide)).trans (e131)) rfl ?_
    refine ax_iload_n dX4_shockOf_43 rfl ?_
    refine ax_iconst dX4_shockOf_44 (v := nI 0) (by decide) ?_
    refine ax_aload_n dX4_shockOf_45 rfl ?_
    refine ax_iconst dX4_shockOf_46 (v := nI 1) (by decide) ?_
    refine ax_cV dX4_shockOf_47 mmX4_value lkX4_59 miX4_value msX4_value (ax_recv_of ((ax_wr_ne (by decide)).trans (e131)) rfl) rfl rfl (Nat.le_of_ble_eq_true rfl) (Nat.le_of_ble_eq_true rfl) rfl rfl (c_value (l := 1) (by decide) (hok 1 (by decide)) l1 l2 l3 l4 (by rw [ax_wr_ne (by decide)]; exact e131) (by rw [ax_wr_ne (by decide)]; exact e89) (by rw [ax_wr_ne (by decide)]; exact e103) (by rw [ax_wr_ne (by decide)]; exact e104) (by rw [ax_wr_ne (by decide)]; exact e105) ax_wr_eq (by rw [ax_wr_ne (by decide)]; exact e133) (fun K' => ⟨_, rfl, ?_⟩))
    rw [ev_congM (F' := fc (N.1 5 r) (σ 1 r) (mn σ (N.1 1) r) (mn σ (N.1 2) r) 0 (9 - N.1 2 s) 0 0) (fun c hc h8 => by
      have := hf1 c hc h8
      have h5 : c = 0 ∨ c = 1 ∨ c = 2 ∨ c = 3 ∨ c = 5 := by omega
      rcases h5 with rfl | rfl | rfl | rfl | rfl <;> simp [upd, fc, hLg r hr, hH r hr, hhd r hr, hsf r hr])]
    refine ax_bipush dX4_shockOf_50 (v := nI 100) (by decide) ?_
    refine ax_cSN dX4_shockOf_52 mmX11_within lnX4_63 mtX11_within rfl rfl (Nat.le_of_ble_eq_true rfl) (Nat.le_of_ble_eq_true rfl) rfl rfl (c_within ⟨_, rfl, ?_⟩)
    rw [(cl_eq (by decide) (by decide) _).1]
    refine ax_iast dX4_shockOf_55 ((ax_wr_ne (by decide)).trans ((ax_wr_ne (by decide)).trans (e137))) (ax_ix_nI (by omega) (by decide)) ?_
    refine ax_aload_n dX4_shockOf_56 rfl ?_
    refine ax_getf dX4_shockOf_57 flX4_27 ((ax_wr_ne (by decide)).trans ((ax_wr_ne (by decide)).trans ((ax_wr_ne (by decide)).trans (e131)))) rfl ?_
    refine ax_iload_n dX4_shockOf_60 rfl ?_
    refine ax_iald dX4_shockOf_61 ax_wr_eq (ax_ix_nI (by omega) (by decide)) ?_
    have hSm := ((Same.rfl' (h := h) (lo := 132) (hi := 137)).wr (k := 132) (e := eI 8 (upd (upd (upd (upd (upd F 0 (L r)) 1 (H r)) 2 (hd' r)) 3 (sf' r)) 5 (nI (9 - N.1 2 s)))) (by decide) (by decide)).wr (k := 133) (e := eI 32 K') (by decide) (by decide) |>.wr (k := 137) (e := eI 50 (upd f (5 * r + s) (nI (shock N σ r s)))) (by decide) (by decide)
    refine ax_topi (y := nI (shock N σ r s)) (by simp [upd, shock]) ?_
    refine ax_ireturn dX4_shockOf_62 rfl (hq _ hSm ⟨(ax_wr_ne (by decide)).trans ((ax_wr_ne (by decide)).trans ((ax_wr_ne (by decide)).trans e131)), ⟨_, (ax_wr_ne (by decide)).trans ((ax_wr_ne (by decide)).trans ax_wr_eq)⟩, ⟨_, (ax_wr_ne (by decide)).trans ax_wr_eq⟩, ⟨H, (ax_wr_ne (by decide)).trans ((ax_wr_ne (by decide)).trans ((ax_wr_ne (by decide)).trans e134)), hH⟩, ⟨hd', (ax_wr_ne (by decide)).trans ((ax_wr_ne (by decide)).trans ((ax_wr_ne (by decide)).trans e135)), hhd⟩, ⟨sf', (ax_wr_ne (by decide)).trans ((ax_wr_ne (by decide)).trans ((ax_wr_ne (by decide)).trans e136)), hsf⟩, ⟨_, ax_wr_eq, fun r' s' hr' hs' => ?_⟩⟩)
    simp only [upd]
    by_cases he : 5 * r' + s' = 5 * r + s
    · rw [if_pos he]
      have h1 : r' = r := by omega
      have h2 : s' = s := by omega
      subst h1; subst h2
      exact Or.inr rfl
    · rw [if_neg he]
      exact hf r' s' hr' hs'
  · rw [hm]
    refine ax_icmp_neT 56 dX4_shockOf_13 (by decide) (fun q => by have h0 : ¬ nI (shock N σ r s) < 0 := nI_pos (by have := (cl_eq (a := 0) (b := 100) (by decide) (by decide) (ev (N.2 1) (fc (N.1 5 r) (σ 1 r) (mn σ (N.1 1) r) (mn σ (N.1 2) r) 0 (9 - N.1 2 s) 0 0))).2.2; unfold shock; omega); rw [q] at h0; exact h0 (by decide)) ?_
    refine ax_aload_n dX4_shockOf_56 rfl ?_
    refine ax_getf dX4_shockOf_57 flX4_27 e131 rfl ?_
    refine ax_iload_n dX4_shockOf_60 rfl ?_
    refine ax_iald dX4_shockOf_61 e137 (ax_ix_nI (by omega) (by decide)) ?_
    rw [hm]
    exact ax_ireturn dX4_shockOf_62 rfl (hq _ Same.rfl' hS)
theorem c_mendOf {r s p : Nat} (hr : r < nR N) (hs : s < nS N) (hN : nOK N) (hL : Land h N) (hS : Seen h N σ) (hq : ∀ h', Same h h' 132 133 → Seen h' N σ → Q (.inl (some (.int (nI (mend N σ r s p))))) h') : X G (d + 2) mX4_mendOf 0 (ax_in 4 [.ref 131, .int (nI r), .int (nI s), .int (nI p)]) [] h Q := by
  obtain ⟨⟨co, hl, e89, -⟩, ⟨ha, e92, hha⟩, ⟨so, e93, hso⟩, -, -, ⟨L, e96, hLg⟩, -, -, -, -, -, ⟨C, LB, LE, e103, e104, e105, hlw⟩⟩ := hL
  obtain ⟨e131, ⟨F, e132⟩, ⟨K, e133⟩, ⟨H, e134, hH⟩, ⟨hd', e135, hhd⟩, ⟨sf', e136, hsf⟩, hsh⟩ := id hS
  have hr10 : r < 10 := by have := hN.2.2.1; omega
  have hs5 : s < 5 := by have := hN.1; omega
  obtain ⟨b, l1, l2, l3, l4⟩ := hlw 2 (by decide)
  obtain ⟨-, -, -, -, hhs, -, -, hok, -, -, hf2⟩ := hN
  have hok := hok (by omega)
  refine ax_aload_n dX4_mendOf_0 rfl ?_
  refine ax_iload_n dX4_mendOf_1 rfl ?_
  refine ax_cV dX4_mendOf_2 mmX4_setRoad lkX4_55 miX4_setRoad msX4_setRoad (ax_recv_of e131 rfl) rfl rfl (Nat.le_of_ble_eq_true rfl) (Nat.le_of_ble_eq_true rfl) rfl rfl (c_setRoad hr10 e131 e89 e96 e132 e134 e135 e136 ⟨_, rfl, ?_⟩)
  refine ax_aload_n dX4_mendOf_5 rfl ?_
  refine ax_getf dX4_mendOf_6 flX4_9 ((ax_wr_ne (by decide)).trans (e131)) rfl ?_
  refine ax_iconst dX4_mendOf_9 (v := nI 5) (by decide) ?_
  refine ax_bipush dX4_mendOf_10 (v := nI 9) (by decide) ?_
  refine ax_aload_n dX4_mendOf_12 rfl ?_
  refine ax_getf dX4_mendOf_13 flX4_30 ((ax_wr_ne (by decide)).trans (e131)) rfl ?_
  refine ax_getf dX4_mendOf_16 flX4_48 ((ax_wr_ne (by decide)).trans (e89)) rfl ?_
  refine ax_iload_n dX4_mendOf_19 rfl ?_
  refine ax_iald dX4_mendOf_20 ((ax_wr_ne (by decide)).trans (e93)) (ax_ix_nI hs5 (by decide)) ?_
  rw [hso s hs5]
  refine ax_isub dX4_mendOf_21 ?_
  rw [pk_sub (hhs s hs5).2]
  refine ax_iast dX4_mendOf_22 ax_wr_eq (ax_ix_nI (j := 5) (by decide) (by decide)) ?_
  rw [ax_wr_wr]
  refine ax_aload_n dX4_mendOf_23 rfl ?_
  refine ax_getf dX4_mendOf_24 flX4_9 ((ax_wr_ne (by decide)).trans (e131)) rfl ?_
  refine ax_bipush dX4_mendOf_27 (v := nI 6) (by decide) ?_
  refine ax_iload_n dX4_mendOf_29 rfl ?_
  refine ax_iast dX4_mendOf_30 ax_wr_eq (ax_ix_nI (j := 6) (by decide) (by decide)) ?_
  rw [ax_wr_wr]
  refine ax_aload_n dX4_mendOf_31 rfl ?_
  refine ax_getf dX4_mendOf_32 flX4_9 ((ax_wr_ne (by decide)).trans (e131)) rfl ?_
  refine ax_bipush dX4_mendOf_35 (v := nI 7) (by decide) ?_
  refine ax_aload_n dX4_mendOf_37 rfl ?_
  refine ax_getf dX4_mendOf_38 flX4_30 ((ax_wr_ne (by decide)).trans (e131)) rfl ?_
  refine ax_getf dX4_mendOf_41 flX4_43 ((ax_wr_ne (by decide)).trans (e89)) rfl ?_
  refine ax_iload_n dX4_mendOf_44 rfl ?_
  refine ax_iald dX4_mendOf_45 ((ax_wr_ne (by decide)).trans (e92)) (ax_ix_nI hs5 (by decide)) ?_
  rw [hha s hs5]
  refine ax_iast dX4_mendOf_46 ax_wr_eq (ax_ix_nI (j := 7) (by decide) (by decide)) ?_
  rw [ax_wr_wr]
  refine ax_iconst dX4_mendOf_47 (v := nI 0) (by decide) ?_
  refine ax_aload_n dX4_mendOf_48 rfl ?_
  refine ax_iconst dX4_mendOf_49 (v := nI 2) (by decide) ?_
  refine ax_cV dX4_mendOf_50 mmX4_value lkX4_59 miX4_value msX4_value (ax_recv_of ((ax_wr_ne (by decide)).trans (e131)) rfl) rfl rfl (Nat.le_of_ble_eq_true rfl) (Nat.le_of_ble_eq_true rfl) rfl rfl (c_value (l := 2) (by decide) (hok 2 (by decide)) l1 l2 l3 l4 (by rw [ax_wr_ne (by decide)]; exact e131) (by rw [ax_wr_ne (by decide)]; exact e89) (by rw [ax_wr_ne (by decide)]; exact e103) (by rw [ax_wr_ne (by decide)]; exact e104) (by rw [ax_wr_ne (by decide)]; exact e105) ax_wr_eq (by rw [ax_wr_ne (by decide)]; exact e133) (fun K' => ⟨_, rfl, ?_⟩))
  rw [ev_congM (F' := fc (N.1 5 r) (σ 1 r) (mn σ (N.1 1) r) (mn σ (N.1 2) r) 0 (9 - N.1 2 s) p (N.1 1 s)) (fun c hc h8 => by
    have := hf2 c hc h8
    have h5 : c = 0 ∨ c = 1 ∨ c = 2 ∨ c = 3 ∨ c = 5 ∨ c = 6 ∨ c = 7 := by omega
    rcases h5 with rfl | rfl | rfl | rfl | rfl | rfl | rfl <;> simp [upd, fc, hLg r hr, hH r hr, hhd r hr, hsf r hr])]
  refine ax_bipush dX4_mendOf_53 (v := nI 99) (by decide) ?_
  refine ax_cSN dX4_mendOf_55 mmX11_within lnX4_63 mtX11_within rfl rfl (Nat.le_of_ble_eq_true rfl) (Nat.le_of_ble_eq_true rfl) rfl rfl (c_within ⟨_, rfl, ?_⟩)
  rw [(cl_eq (by decide) (by decide) _).1]
  have hSm := (Same.rfl' (h := h) (lo := 132) (hi := 133)).wr (k := 132) (e := eI 8 (upd (upd (upd (upd (upd (upd (upd F 0 (L r)) 1 (H r)) 2 (hd' r)) 3 (sf' r)) 5 (nI (9 - N.1 2 s))) 6 (nI p)) 7 (nI (N.1 1 s)))) (by decide) (by decide) |>.wr (k := 133) (e := eI 32 K') (by decide) (by decide)
  exact ax_ireturn dX4_mendOf_58 rfl (hq _ hSm (hS.scr hSm ⟨_, (ax_wr_ne (by decide)).trans ax_wr_eq⟩ ⟨_, ax_wr_eq⟩))
/-- a State at k: kp layers are kept -/
def StIs (h : ax_H) (k kp : Nat) (N : Nt) (σ : Sd) : Prop :=
  h.2.2 k = some (eSt k (nI (σ 0 0)) (nI kp)) ∧ isA h (k + 1) 10 (nR N) (σ 1) ∧ isA h (k + 2) 50 50 (σ 2) ∧ isA h (k + 3) 50 50 (σ 3) ∧ isA h (k + 4) 5 5 (σ 4) ∧
  (∃ f, h.2.2 (k + 5) = some (eI 6 f) ∧ ∀ t, t < 6 → f t = nI (σ 5 t) - nI 1) ∧ isA h (k + 6) 6 6 (σ 6) ∧ isA h (k + 7) 5 (kp - 35) (σ 7) ∧
  (∃ f, h.2.2 (k + 8) = some (eI (kp * 50) f) ∧ ∀ y r s, y < σ 0 0 → y < kp → r < nR N → s < nS N → f (50 * y + (5 * r + s)) = nI (σ 8 (50 * y + (5 * r + s))))
theorem StIs.kept {h' : ax_H} {k kp : Nat} (hk : ∀ j, k ≤ j → j ≤ k + 8 → h'.2.2 j = h.2.2 j) (a : StIs h k kp N σ) : StIs h' k kp N σ := by
  obtain ⟨e, a1, a2, a3, a4, ⟨f, e5, q5⟩, a6, a7, ⟨g, e8, q8⟩⟩ := a
  exact ⟨(hk _ (by omega) (by omega)).trans e, a1.kept (hk _ (by omega) (by omega)), a2.kept (hk _ (by omega) (by omega)), a3.kept (hk _ (by omega) (by omega)), a4.kept (hk _ (by omega) (by omega)), ⟨f, (hk _ (by omega) (by omega)).trans e5, q5⟩, a6.kept (hk _ (by omega) (by omega)), a7.kept (hk _ (by omega) (by omega)), ⟨g, (hk _ (by omega) (by omega)).trans e8, q8⟩⟩
theorem sm_mem {f : Nat → Nat} : ∀ {n i : Nat}, i < n → f i ≤ sm f n
  | n + 1, i, hi => by
    show f i ≤ sm f n + f n
    rcases Nat.lt_or_ge i n with q | q
    · have := sm_mem (f := f) q; omega
    · have : i = n := by omega
      subst this; omega
theorem c_look {k kp : Nat} (hk : k + 8 < 131) (hk2 : 106 ≤ k) (hN : nOK N) (hL : Land h N) (hT : StIs h k kp N σ) (hO : sOK N σ) (e131 : h.2.2 131 = some eSv) (a132 : anA h 132 8) (a133 : anA h 133 32) (a134 : anA h 134 10) (a135 : anA h 135 10) (a136 : anA h 136 10) (a137 : anA h 137 50)
    (hq : ∀ h', Same h h' 134 137 → Seen h' N σ → Q (.inl none) h') : X G (d + 2) mX4_look 0 (ax_in 3 [.ref 131, .ref k]) [] h Q := by
  obtain ⟨⟨co, hl, e89, -⟩, ⟨ha, e92, hha⟩, ⟨so, e93, hso⟩, -⟩ := hL
  obtain ⟨f134, e134⟩ := a134
  obtain ⟨f135, e135⟩ := a135
  obtain ⟨f136, e136⟩ := a136
  obtain ⟨f137, e137⟩ := a137
  obtain ⟨ek, ⟨H, ek_1, hH⟩, ⟨S, ek_2, hSu⟩, -⟩ := hT
  have hR := hN.2.2.1
  have h9 := hN.2.2.2.2.1
  obtain ⟨o1, o2, o3⟩ := hO
  refine ax_iconst dX4_look_0 (v := nI 0) (by decide) ?_
  refine ax_istore_n dX4_look_1 (Nat.le_of_ble_eq_true rfl) ?_
  have loop : ∀ (m i : Nat), i + m = nR N → X G (d + 2) mX4_look 2 [some (.ref 131), some (.ref k), some (.int (nI i))] [] (ax_wr (ax_wr (ax_wr h 134 (eI 10 (fl i (fun r => nI (σ 1 r)) f134))) 135 (eI 10 (fl i (fun r => nI (mn σ (N.1 1) r)) f135))) 136 (eI 10 (fl i (fun r => nI (mn σ (N.1 2) r)) f136))) Q := by
    intro m
    induction m with
    | zero =>
      intro i hi
      refine ax_iload_n dX4_look_2 rfl ?_
      refine ax_aload_n dX4_look_3 rfl ?_
      refine ax_getf dX4_look_4 flX4_30 ((ax_wr_ne (by decide)).trans ((ax_wr_ne (by decide)).trans ((ax_wr_ne (by decide)).trans (e131)))) rfl ?_
      refine ax_getf dX4_look_7 flX4_34 ((ax_wr_ne (by decide)).trans ((ax_wr_ne (by decide)).trans ((ax_wr_ne (by decide)).trans (e89)))) rfl ?_
      refine ax_icmp_geT 67 dX4_look_10 (by decide) (by rw [show i = nR N by omega]; exact Int32.le_refl _) ?_
      refine ax_aload_n dX4_look_67 rfl ?_
      refine ax_getf dX4_look_68 flX4_27 ((ax_wr_ne (by decide)).trans ((ax_wr_ne (by decide)).trans ((ax_wr_ne (by decide)).trans (e131)))) rfl ?_
      refine ax_iconst dX4_look_71 (v := -1) (by decide) ?_
      refine ax_cS dX4_look_72 mmJ7_fill_53178 lkX4_49 mtJ7_fill_53178 rfl rfl (Nat.le_of_ble_eq_true rfl) (Nat.le_of_ble_eq_true rfl) rfl rfl (c_fill (by decide) ((ax_wr_ne (by decide)).trans ((ax_wr_ne (by decide)).trans ((ax_wr_ne (by decide)).trans e137))) ⟨_, rfl, ?_⟩)
      obtain rfl : i = nR N := by omega
      have hSm := ((((Same.rfl' (h := h) (lo := 134) (hi := 137)).wr (k := 134) (e := eI 10 (fl (nR N) (fun r => nI (σ 1 r)) f134)) (by decide) (by decide)).wr (k := 135) (e := eI 10 (fl (nR N) (fun r => nI (mn σ (N.1 1) r)) f135)) (by decide) (by decide)).wr (k := 136) (e := eI 10 (fl (nR N) (fun r => nI (mn σ (N.1 2) r)) f136)) (by decide) (by decide)).wr (k := 137) (e := eI 50 (fl 50 (fun _ => -1) f137)) (by decide) (by decide)
      exact ax_return dX4_look_75 rfl (hq _ hSm ⟨(hSm.2.2 131 (by decide)).trans e131, a132.kept (hSm.2.2 _ (by decide)), a133.kept (hSm.2.2 _ (by decide)), ⟨_, (ax_wr_ne (by decide)).trans ((ax_wr_ne (by decide)).trans ((ax_wr_ne (by decide)).trans ax_wr_eq)), fun j hj => fl_in hj⟩, ⟨_, (ax_wr_ne (by decide)).trans ((ax_wr_ne (by decide)).trans ax_wr_eq), fun j hj => fl_in hj⟩, ⟨_, (ax_wr_ne (by decide)).trans ax_wr_eq, fun j hj => fl_in hj⟩, ⟨_, ax_wr_eq, fun r s hr hs => Or.inl (fl_in (by have := hN.1; omega))⟩⟩)
    | succ m ih =>
      intro i hi
      refine ax_iload_n dX4_look_2 rfl ?_
      refine ax_aload_n dX4_look_3 rfl ?_
      refine ax_getf dX4_look_4 flX4_30 ((ax_wr_ne (by decide)).trans ((ax_wr_ne (by decide)).trans ((ax_wr_ne (by decide)).trans (e131)))) rfl ?_
      refine ax_getf dX4_look_7 flX4_34 ((ax_wr_ne (by decide)).trans ((ax_wr_ne (by decide)).trans ((ax_wr_ne (by decide)).trans (e89)))) rfl ?_
      refine ax_icmp_geF 67 dX4_look_10 (by decide) (nI_ge (by omega) (by omega)) ?_
      refine ax_aload_n dX4_look_13 rfl ?_
      refine ax_getf dX4_look_14 flX4_18 ((ax_wr_ne (by decide)).trans ((ax_wr_ne (by decide)).trans ((ax_wr_ne (by decide)).trans (e131)))) rfl ?_
      refine ax_iload_n dX4_look_17 rfl ?_
      refine ax_aload_n dX4_look_18 rfl ?_
      refine ax_getf dX4_look_19 flX4_40 ((ax_wr_ne (by omega)).trans ((ax_wr_ne (by omega)).trans ((ax_wr_ne (by omega)).trans (ek)))) rfl ?_
      refine ax_iload_n dX4_look_22 rfl ?_
      refine ax_iald dX4_look_23 ((ax_wr_ne (by omega)).trans ((ax_wr_ne (by omega)).trans ((ax_wr_ne (by omega)).trans (ek_1)))) (ax_ix_nI (by omega) (by decide)) ?_
      rw [hH i (by omega)]
      refine ax_iast dX4_look_24 ((ax_wr_ne (by decide)).trans ((ax_wr_ne (by decide)).trans (ax_wr_eq))) (ax_ix_nI (by omega) (by decide)) ?_
      rw [ax_wr_cm (j := 136) (k := 134) (by decide), ax_wr_cm (j := 135) (k := 134) (by decide), ax_wr_wr, fl_s rfl]
      refine ax_aload_n dX4_look_25 rfl ?_
      refine ax_getf dX4_look_26 flX4_21 ((ax_wr_ne (by decide)).trans ((ax_wr_ne (by decide)).trans ((ax_wr_ne (by decide)).trans (e131)))) rfl ?_
      refine ax_iload_n dX4_look_29 rfl ?_
      refine ax_aload_n dX4_look_30 rfl ?_
      refine ax_iload_n dX4_look_31 rfl ?_
      refine ax_aload_n dX4_look_32 rfl ?_
      refine ax_getf dX4_look_33 flX4_30 ((ax_wr_ne (by decide)).trans ((ax_wr_ne (by decide)).trans ((ax_wr_ne (by decide)).trans (e131)))) rfl ?_
      refine ax_getf dX4_look_36 flX4_43 ((ax_wr_ne (by decide)).trans ((ax_wr_ne (by decide)).trans ((ax_wr_ne (by decide)).trans (e89)))) rfl ?_
      refine ax_cV dX4_look_39 mmX3_mean lkX4_44 miX3_mean msX3_mean (ax_recv_of ((ax_wr_ne (by omega)).trans ((ax_wr_ne (by omega)).trans ((ax_wr_ne (by omega)).trans (ek)))) rfl) rfl rfl (Nat.le_of_ble_eq_true rfl) (Nat.le_of_ble_eq_true rfl) rfl rfl (c_mean (o := ha) (sf := fun s => σ 2 (5 * i + s)) (q := N.1 1) ((ax_wr_ne (by omega)).trans ((ax_wr_ne (by omega)).trans ((ax_wr_ne (by omega)).trans ek))) ((ax_wr_ne (by omega)).trans ((ax_wr_ne (by omega)).trans ((ax_wr_ne (by omega)).trans ek_2))) ((ax_wr_ne (by decide)).trans ((ax_wr_ne (by decide)).trans ((ax_wr_ne (by decide)).trans e92))) (by omega) (fun s hs => hSu _ (by omega)) (fun s hs => by have := o2 i (by omega); have := sm_mem (f := fun s => σ 2 (5 * i + s)) hs; omega) hha (fun s hs => (h9 s hs).1) ⟨_, rfl, ?_⟩)
      refine ax_topi (y := nI (mn σ (N.1 1) i)) rfl ?_
      refine ax_iast dX4_look_42 ((ax_wr_ne (by decide)).trans (ax_wr_eq)) (ax_ix_nI (by omega) (by decide)) ?_
      rw [ax_wr_cm (j := 136) (k := 135) (by decide), ax_wr_wr, fl_s rfl]
      refine ax_aload_n dX4_look_43 rfl ?_
      refine ax_getf dX4_look_44 flX4_24 ((ax_wr_ne (by decide)).trans ((ax_wr_ne (by decide)).trans ((ax_wr_ne (by decide)).trans (e131)))) rfl ?_
      refine ax_iload_n dX4_look_47 rfl ?_
      refine ax_aload_n dX4_look_48 rfl ?_
      refine ax_iload_n dX4_look_49 rfl ?_
      refine ax_aload_n dX4_look_50 rfl ?_
      refine ax_getf dX4_look_51 flX4_30 ((ax_wr_ne (by decide)).trans ((ax_wr_ne (by decide)).trans ((ax_wr_ne (by decide)).trans (e131)))) rfl ?_
      refine ax_getf dX4_look_54 flX4_48 ((ax_wr_ne (by decide)).trans ((ax_wr_ne (by decide)).trans ((ax_wr_ne (by decide)).trans (e89)))) rfl ?_
      refine ax_cV dX4_look_57 mmX3_mean lkX4_44 miX3_mean msX3_mean (ax_recv_of ((ax_wr_ne (by omega)).trans ((ax_wr_ne (by omega)).trans ((ax_wr_ne (by omega)).trans (ek)))) rfl) rfl rfl (Nat.le_of_ble_eq_true rfl) (Nat.le_of_ble_eq_true rfl) rfl rfl (c_mean (o := so) (sf := fun s => σ 2 (5 * i + s)) (q := N.1 2) ((ax_wr_ne (by omega)).trans ((ax_wr_ne (by omega)).trans ((ax_wr_ne (by omega)).trans ek))) ((ax_wr_ne (by omega)).trans ((ax_wr_ne (by omega)).trans ((ax_wr_ne (by omega)).trans ek_2))) ((ax_wr_ne (by decide)).trans ((ax_wr_ne (by decide)).trans ((ax_wr_ne (by decide)).trans e93))) (by omega) (fun s hs => hSu _ (by omega)) (fun s hs => by have := o2 i (by omega); have := sm_mem (f := fun s => σ 2 (5 * i + s)) hs; omega) hso (fun s hs => (h9 s hs).2) ⟨_, rfl, ?_⟩)
      refine ax_topi (y := nI (mn σ (N.1 2) i)) rfl ?_
      refine ax_iast dX4_look_60 ax_wr_eq (ax_ix_nI (by omega) (by decide)) ?_
      rw [ax_wr_wr]
      rw [fl_s rfl]
      refine ax_iinc dX4_look_61 rfl (ax_inc 1) ?_
      refine ax_goto 2 dX4_look_64 (by decide) ?_
      rw [nI_add]
      exact ih (i + 1) (by omega)
  have := loop (nR N) 0 (by omega)
  rw [fl_0, fl_0, fl_0, ax_wr_id e134, ax_wr_id e135, ax_wr_id e136] at this
  exact this
end SV2
