/-! ===== the model: prices, shocks, mending ===== -/
def mfP : Nat → Prop := fun j => j = 157 ∨ j = 158
def MC (h : ax_H) (F S O A : Nat → Int32) : Prop := h.2.2 151 = some (eI 168 F) ∧ h.2.2 152 = some (eI 2200 O) ∧ h.2.2 153 = some (eI 2200 A) ∧ h.2.2 159 = some (eI 12840 S) ∧ anA h 157 8 ∧ anA h 158 1100
section MK
variable {G : ax_G} {d : Nat} {h : ax_H} {Q : ax_O → ax_H → Prop} {N : Nt} {σ : Sd}
variable {th ta si pt fa co nm rd ask nw os sw bc bm : Int32} {gg : Int64} {F S O A Fc K : Nat → Int32}
theorem MC.but {h' : ax_H} (a : MC h F S O A) (hb : But h h' mfP) (h1 : anA h' 157 8) (h2 : anA h' 158 1100) : MC h' F S O A := by
  obtain ⟨a1, a2, a3, a4, -, -⟩ := a
  exact ⟨(hb.2.2 151 (by unfold mfP; omega)).trans a1, (hb.2.2 152 (by unfold mfP; omega)).trans a2, (hb.2.2 153 (by unfold mfP; omega)).trans a3, (hb.2.2 159 (by unfold mfP; omega)).trans a4, h1, h2⟩
theorem cl_in {a b x : Nat} (h1 : a ≤ x) (h2 : x ≤ b) (hb : b < 2 ^ 31) : cl a b (nI x) = x := by
  have h3 := (cl_eq (a := a) (b := b) (by omega) hb (nI x)).1
  have h4 : clp (nI a) (nI x) (nI b) = nI x := by
    unfold clp
    rw [if_neg (nI_nlt h1 (by omega)), if_neg (nI_nlt h2 hb)]
  have h5 := (cl_eq (a := a) (b := b) (by omega) hb (nI x)).2.2
  exact nI_inj (by omega) (by omega) (h3.symm.trans h4)
theorem ev_one {c : Nat} (hc : c < 8) {f : Nat → Int32} : ev [c] f = f c := by
  unfold ev
  simp only [rs]
  rw [if_pos hc]
  exact pk_us
theorem k_laysFacts {r : Nat} (hr : r < nR N) (hN : nOK N) (hO : sOK N σ) (hF : FnB F N) (hS : Sb S N σ) (hM : MC h F S O A) (e145 : h.2.2 145 = some (eM th ta si pt fa co nm rd ask nw os sw bc bm gg))
    (hq : ∀ Fc' : Nat → Int32, Fc' 0 = nI (N.1 5 r) → Fc' 1 = nI (σ 1 r) → Fc' 2 = nI (mn σ (N.1 1) r) → Fc' 3 = nI (mn σ (N.1 2) r) → Q (.inl none) (ax_wr h 157 (eI 8 Fc'))) : X G (d + 2) mX12_laysFacts 0 (ax_in 2 [.ref 145, .int (nI r)]) [] h Q := by
  obtain ⟨e151, -, -, e159, ⟨Fc, e157⟩, -⟩ := id hM
  obtain ⟨-, -, -, -, -, fr⟩ := id hF
  obtain ⟨-, s1, -⟩ := id hS
  have hR10 := hN.2.2.1
  refine ax_aload_n dX12_laysFacts_0 rfl ?_
  refine ax_getf dX12_laysFacts_1 flX12_93 e145 rfl ?_
  refine ax_iconst dX12_laysFacts_4 (v := nI 0) (by decide) ?_
  refine ax_aload_n dX12_laysFacts_5 rfl ?_
  refine ax_iload_n dX12_laysFacts_6 rfl ?_
  refine ax_iconst dX12_laysFacts_7 (v := nI 2) (by decide) ?_
  refine ax_cV dX12_laysFacts_8 mmX12_roadOf lkX12_279 miX12_roadOf msX12_roadOf (ax_recv_of e145 rfl) rfl rfl (Nat.le_of_ble_eq_true rfl) (Nat.le_of_ble_eq_true rfl) rfl rfl (k_roadOf (i := 2) (by omega) (by omega) e145 e151 ⟨_, rfl, ?_⟩)
  rw [(fr r hr).2.2]
  refine ax_iast dX12_laysFacts_11 e157 (ax_ix_nI (j := 0) (by decide) (by decide)) ?_
  refine ax_aload_n dX12_laysFacts_12 rfl ?_
  refine ax_getf dX12_laysFacts_13 flX12_93 ((ax_wr_ne (by decide)).trans (e145)) rfl ?_
  refine ax_iconst dX12_laysFacts_16 (v := nI 1) (by decide) ?_
  refine ax_aload_n dX12_laysFacts_17 rfl ?_
  refine ax_getf dX12_laysFacts_18 flX12_99 ((ax_wr_ne (by decide)).trans (e145)) rfl ?_
  refine ax_iconst dX12_laysFacts_21 (v := nI 1) (by decide) ?_
  refine ax_iload_n dX12_laysFacts_22 rfl ?_
  refine ax_iadd dX12_laysFacts_23 ?_
  rw [nI_add 1 r]
  refine ax_iald dX12_laysFacts_24 ((ax_wr_ne (by decide)).trans (e159)) (ax_ix_nI (j := 1 + r) (by omega) (by decide)) ?_
  rw [s1 r hr]
  refine ax_iast dX12_laysFacts_25 ax_wr_eq (ax_ix_nI (j := 1) (by decide) (by decide)) ?_
  rw [ax_wr_wr]
  refine ax_aload_n dX12_laysFacts_26 rfl ?_
  refine ax_getf dX12_laysFacts_27 flX12_93 ((ax_wr_ne (by decide)).trans (e145)) rfl ?_
  refine ax_iconst dX12_laysFacts_30 (v := nI 2) (by decide) ?_
  refine ax_aload_n dX12_laysFacts_31 rfl ?_
  refine ax_iload_n dX12_laysFacts_32 rfl ?_
  refine ax_iconst dX12_laysFacts_33 (v := nI 0) (by decide) ?_
  refine ax_cV dX12_laysFacts_34 mmX12_mean lkX12_282 miX12_mean msX12_mean (ax_recv_of ((ax_wr_ne (by decide)).trans (e145)) rfl) rfl rfl (Nat.le_of_ble_eq_true rfl) (Nat.le_of_ble_eq_true rfl) rfl rfl (k_mean (w := 0) hr (by omega) hN hO hF hS ((ax_wr_ne (by decide)).trans (e145)) ((ax_wr_ne (by decide)).trans (e151)) ((ax_wr_ne (by decide)).trans (e159)) ⟨_, rfl, ?_⟩)
  refine ax_iast dX12_laysFacts_37 ax_wr_eq (ax_ix_nI (j := 2) (by decide) (by decide)) ?_
  rw [ax_wr_wr]
  refine ax_aload_n dX12_laysFacts_38 rfl ?_
  refine ax_getf dX12_laysFacts_39 flX12_93 ((ax_wr_ne (by decide)).trans (e145)) rfl ?_
  refine ax_iconst dX12_laysFacts_42 (v := nI 3) (by decide) ?_
  refine ax_aload_n dX12_laysFacts_43 rfl ?_
  refine ax_iload_n dX12_laysFacts_44 rfl ?_
  refine ax_iconst dX12_laysFacts_45 (v := nI 1) (by decide) ?_
  refine ax_cV dX12_laysFacts_46 mmX12_mean lkX12_282 miX12_mean msX12_mean (ax_recv_of ((ax_wr_ne (by decide)).trans (e145)) rfl) rfl rfl (Nat.le_of_ble_eq_true rfl) (Nat.le_of_ble_eq_true rfl) rfl rfl (k_mean (w := 1) hr (by omega) hN hO hF hS ((ax_wr_ne (by decide)).trans (e145)) ((ax_wr_ne (by decide)).trans (e151)) ((ax_wr_ne (by decide)).trans (e159)) ⟨_, rfl, ?_⟩)
  refine ax_iast dX12_laysFacts_49 ax_wr_eq (ax_ix_nI (j := 3) (by decide) (by decide)) ?_
  rw [ax_wr_wr]
  exact ax_return dX12_laysFacts_50 rfl (hq _ ((pk_un (by decide)).trans ((pk_un (by decide)).trans ((pk_un (by decide)).trans pk_us))) ((pk_un (by decide)).trans ((pk_un (by decide)).trans pk_us)) ((pk_un (by decide)).trans pk_us) pk_us)
theorem k_costOf {r ld : Nat} (hr : r < nR N) (hN : nOK N) (hO : sOK N σ) (hF : FnB F N) (hL : FnL F O A N) (hS : Sb S N σ) (hM : MC h F S O A) (e145 : h.2.2 145 = some (eM th ta si pt fa co nm rd ask nw os sw bc bm gg))
    (hq : ∀ h', But h h' mfP → MC h' F S O A → Q (.inl (some (.int (nI (price N σ r ld))))) h') : X G (d + 3) mX12_costOf 0 (ax_in 3 [.ref 145, .int (nI r), .int (nI ld)]) [] h Q := by
  obtain ⟨e151, e152, e153, e159, -, ⟨K, e158⟩⟩ := id hM
  obtain ⟨-, -, -, -, -, fr⟩ := id hF
  have hR10 := hN.2.2.1
  have hok := hN.2.2.2.2.2.2.2.1 (by omega) 0 (by omega)
  have hfa := hN.2.2.2.2.2.2.2.2.1
  rcases (hL (by omega)).1 with ⟨l1, l2⟩ | ⟨b, l1, l2, l3, l4⟩
  · have hpr : price N σ r ld = N.1 5 r := by
      have hlo := hN.2.2.2.2.2.1 r hr
      unfold price
      rw [l2, ev_one (by omega)]
      exact cl_in hlo.2.2.2.1 (by omega) (by decide)
    refine ax_aload_n dX12_costOf_0 rfl ?_
    refine ax_getf dX12_costOf_1 flX12_75 e145 rfl ?_
    refine ax_iconst dX12_costOf_4 (v := nI 4) (by decide) ?_
    refine ax_iald dX12_costOf_5 e151 (ax_ix_nI (j := 4) (by decide) (by decide)) ?_
    rw [show F 4 = -1 from l1]
    refine ax_if_geF 16 dX12_costOf_6 (by decide) (by decide) ?_
    refine ax_aload_n dX12_costOf_9 rfl ?_
    refine ax_iload_n dX12_costOf_10 rfl ?_
    refine ax_iconst dX12_costOf_11 (v := nI 2) (by decide) ?_
    refine ax_cV dX12_costOf_12 mmX12_roadOf lkX12_279 miX12_roadOf msX12_roadOf (ax_recv_of e145 rfl) rfl rfl (Nat.le_of_ble_eq_true rfl) (Nat.le_of_ble_eq_true rfl) rfl rfl (k_roadOf (i := 2) (by omega) (by omega) e145 e151 ⟨_, rfl, ?_⟩)
    rw [(fr r hr).2.2]
    exact ax_ireturn dX12_costOf_15 rfl (by rw [← hpr]; exact hq h But.rf hM)
  · refine ax_aload_n dX12_costOf_0 rfl ?_
    refine ax_getf dX12_costOf_1 flX12_75 e145 rfl ?_
    refine ax_iconst dX12_costOf_4 (v := nI 4) (by decide) ?_
    refine ax_iald dX12_costOf_5 e151 (ax_ix_nI (j := 4) (by decide) (by decide)) ?_
    rw [show F 4 = nI b from l1]
    refine ax_if_geT 16 dX12_costOf_6 (by decide) (nI_pos' (by omega)) ?_
    refine ax_aload_n dX12_costOf_16 rfl ?_
    refine ax_iload_n dX12_costOf_17 rfl ?_
    refine ax_cV dX12_costOf_18 mmX12_laysFacts lkX12_285 miX12_laysFacts msX12_laysFacts (ax_recv_of e145 rfl) rfl rfl (Nat.le_of_ble_eq_true rfl) (Nat.le_of_ble_eq_true rfl) rfl rfl (k_laysFacts (d := d) hr hN hO hF hS hM e145 (fun Fc' q0 q1 q2 q3 => ⟨_, rfl, ?_⟩))
    refine ax_aload_n dX12_costOf_21 rfl ?_
    refine ax_getf dX12_costOf_22 flX12_93 ((ax_wr_ne (by decide)).trans (e145)) rfl ?_
    refine ax_iconst dX12_costOf_25 (v := nI 4) (by decide) ?_
    refine ax_iload_n dX12_costOf_26 rfl ?_
    refine ax_iast dX12_costOf_27 ax_wr_eq (ax_ix_nI (j := 4) (by decide) (by decide)) ?_
    rw [ax_wr_wr]
    refine ax_aload_n dX12_costOf_28 rfl ?_
    refine ax_aload_n dX12_costOf_29 rfl ?_
    refine ax_getf dX12_costOf_30 flX12_75 ((ax_wr_ne (by decide)).trans (e145)) rfl ?_
    refine ax_iconst dX12_costOf_33 (v := nI 4) (by decide) ?_
    refine ax_iald dX12_costOf_34 ((ax_wr_ne (by decide)).trans (e151)) (ax_ix_nI (j := 4) (by decide) (by decide)) ?_
    rw [show F 4 = nI b from l1]
    have hev : ev (N.2 0) (upd Fc' 4 (nI ld)) = ev (N.2 0) (fc (N.1 5 r) (σ 1 r) (mn σ (N.1 1) r) (mn σ (N.1 2) r) ld 0 0 0) := ev_congM (fun c hc h8 => by
      have := hfa c hc h8
      rcases (show c = 0 ∨ c = 1 ∨ c = 2 ∨ c = 3 ∨ c = 4 by omega) with rfl | rfl | rfl | rfl | rfl
      · exact (pk_un (by decide)).trans q0
      · exact (pk_un (by decide)).trans q1
      · exact (pk_un (by decide)).trans q2
      · exact (pk_un (by decide)).trans q3
      · exact pk_us)
    refine ax_cV dX12_costOf_35 mmX12_worthAt lkX12_288 miX12_worthAt msX12_worthAt (ax_recv_of ((ax_wr_ne (by decide)).trans (e145)) rfl) rfl rfl (Nat.le_of_ble_eq_true rfl) (Nat.le_of_ble_eq_true rfl) rfl rfl (k_worthAt (d := d + 1) hok l3 l4 l2 ((ax_wr_ne (by decide)).trans (e145)) ((ax_wr_ne (by decide)).trans (e152)) ((ax_wr_ne (by decide)).trans (e153)) ax_wr_eq ((ax_wr_ne (by decide)).trans (e158)) (fun K' => ⟨_, rfl, ?_⟩))
    rw [hev]
    refine ax_iconst dX12_costOf_38 (v := nI 1) (by decide) ?_
    refine ax_sipush dX12_costOf_39 (v := nI 9999) (by decide) ?_
    refine ax_cS dX12_costOf_42 mmX12_clip lkX12_291 mtX12_clip rfl rfl (Nat.le_of_ble_eq_true rfl) (Nat.le_of_ble_eq_true rfl) rfl rfl (k_clip ⟨_, rfl, ?_⟩)
    rw [(cl_eq (a := 1) (b := 9999) (by decide) (by decide) _).1]
    have hb : But h (ax_wr (ax_wr h 157 (eI 8 (upd Fc' 4 (nI ld)))) 158 (eI 1100 K')) mfP := (But.rf.wr (Or.inl rfl)).wr (Or.inr rfl)
    exact ax_ireturn dX12_costOf_45 rfl (hq _ hb (hM.but hb ⟨_, (ax_wr_ne (by decide)).trans ax_wr_eq⟩ ⟨_, ax_wr_eq⟩))
theorem k_shockOf {r s : Nat} (hr : r < nR N) (hs : s < nS N) (hN : nOK N) (hO : sOK N σ) (hF : FnB F N) (hL : FnL F O A N) (hS : Sb S N σ) (hM : MC h F S O A) (e145 : h.2.2 145 = some (eM th ta si pt fa co nm rd ask nw os sw bc bm gg))
    (hq : ∀ h', But h h' mfP → MC h' F S O A → Q (.inl (some (.int (nI (shock N σ r s))))) h') : X G (d + 3) mX12_shockOf 0 (ax_in 3 [.ref 145, .int (nI r), .int (nI s)]) [] h Q := by
  obtain ⟨e151, e152, e153, e159, -, ⟨K, e158⟩⟩ := id hM
  obtain ⟨-, -, -, -, fs, -⟩ := id hF
  obtain ⟨-, s1, -⟩ := id hS
  have hR10 := hN.2.2.1
  have hS5 := hN.1
  have hok := hN.2.2.2.2.2.2.2.1 (by omega) 1 (by omega)
  have hfa := hN.2.2.2.2.2.2.2.2.2.1
  have hso := hN.2.2.2.2.1 s (by omega)
  rcases (hL (by omega)).2.1 with ⟨l1, l2⟩ | ⟨b, l1, l2, l3, l4⟩
  · have hpr : clp (nI 0) (nI (σ 1 r)) (nI 100) = nI (shock N σ r s) := by
      rw [(cl_eq (a := 0) (b := 100) (by decide) (by decide) _).1]
      unfold shock
      rw [l2, ev_one (by omega)]
      rfl
    refine ax_aload_n dX12_shockOf_0 rfl ?_
    refine ax_getf dX12_shockOf_1 flX12_75 e145 rfl ?_
    refine ax_iconst dX12_shockOf_4 (v := nI 5) (by decide) ?_
    refine ax_iald dX12_shockOf_5 e151 (ax_ix_nI (j := 5) (by decide) (by decide)) ?_
    rw [show F 5 = -1 from l1]
    refine ax_if_geF 24 dX12_shockOf_6 (by decide) (by decide) ?_
    refine ax_aload_n dX12_shockOf_9 rfl ?_
    refine ax_getf dX12_shockOf_10 flX12_99 e145 rfl ?_
    refine ax_iconst dX12_shockOf_13 (v := nI 1) (by decide) ?_
    refine ax_iload_n dX12_shockOf_14 rfl ?_
    refine ax_iadd dX12_shockOf_15 ?_
    rw [nI_add 1 r]
    refine ax_iald dX12_shockOf_16 e159 (ax_ix_nI (j := 1 + r) (by omega) (by decide)) ?_
    rw [s1 r hr]
    refine ax_iconst dX12_shockOf_17 (v := nI 0) (by decide) ?_
    refine ax_bipush dX12_shockOf_18 (v := nI 100) (by decide) ?_
    refine ax_cS dX12_shockOf_20 mmX12_clip lkX12_291 mtX12_clip rfl rfl (Nat.le_of_ble_eq_true rfl) (Nat.le_of_ble_eq_true rfl) rfl rfl (k_clip ⟨_, rfl, ?_⟩)
    rw [hpr]
    exact ax_ireturn dX12_shockOf_23 rfl (hq h But.rf hM)
  · refine ax_aload_n dX12_shockOf_0 rfl ?_
    refine ax_getf dX12_shockOf_1 flX12_75 e145 rfl ?_
    refine ax_iconst dX12_shockOf_4 (v := nI 5) (by decide) ?_
    refine ax_iald dX12_shockOf_5 e151 (ax_ix_nI (j := 5) (by decide) (by decide)) ?_
    rw [show F 5 = nI b from l1]
    refine ax_if_geT 24 dX12_shockOf_6 (by decide) (nI_pos' (by omega)) ?_
    refine ax_aload_n dX12_shockOf_24 rfl ?_
    refine ax_iload_n dX12_shockOf_25 rfl ?_
    refine ax_cV dX12_shockOf_26 mmX12_laysFacts lkX12_285 miX12_laysFacts msX12_laysFacts (ax_recv_of e145 rfl) rfl rfl (Nat.le_of_ble_eq_true rfl) (Nat.le_of_ble_eq_true rfl) rfl rfl (k_laysFacts (d := d) hr hN hO hF hS hM e145 (fun Fc' q0 q1 q2 q3 => ⟨_, rfl, ?_⟩))
    refine ax_aload_n dX12_shockOf_29 rfl ?_
    refine ax_getf dX12_shockOf_30 flX12_93 ((ax_wr_ne (by decide)).trans (e145)) rfl ?_
    refine ax_iconst dX12_shockOf_33 (v := nI 5) (by decide) ?_
    refine ax_bipush dX12_shockOf_34 (v := nI 9) (by decide) ?_
    refine ax_aload_n dX12_shockOf_36 rfl ?_
    refine ax_getf dX12_shockOf_37 flX12_75 ((ax_wr_ne (by decide)).trans (e145)) rfl ?_
    refine ax_bipush dX12_shockOf_40 (v := nI 7) (by decide) ?_
    refine ax_iconst dX12_shockOf_42 (v := nI 2) (by decide) ?_
    refine ax_iload_n dX12_shockOf_43 rfl ?_
    refine ax_imul dX12_shockOf_44 ?_
    refine ax_iadd dX12_shockOf_45 ?_
    refine ax_iconst dX12_shockOf_46 (v := nI 1) (by decide) ?_
    refine ax_iadd dX12_shockOf_47 ?_
    rw [pk_mul 2 s, nI_add 7 (2 * s), nI_add (7 + 2 * s) 1]
    refine ax_iald dX12_shockOf_48 ((ax_wr_ne (by decide)).trans (e151)) (ax_ix_nI (j := 7 + 2 * s + 1) (by omega) (by decide)) ?_
    rw [(fs s hs).2]
    refine ax_isub dX12_shockOf_49 ?_
    rw [pk_sub (show N.1 2 s ≤ 9 from hso.2)]
    refine ax_iast dX12_shockOf_50 ax_wr_eq (ax_ix_nI (j := 5) (by decide) (by decide)) ?_
    rw [ax_wr_wr]
    refine ax_aload_n dX12_shockOf_51 rfl ?_
    refine ax_aload_n dX12_shockOf_52 rfl ?_
    refine ax_getf dX12_shockOf_53 flX12_75 ((ax_wr_ne (by decide)).trans (e145)) rfl ?_
    refine ax_iconst dX12_shockOf_56 (v := nI 5) (by decide) ?_
    refine ax_iald dX12_shockOf_57 ((ax_wr_ne (by decide)).trans (e151)) (ax_ix_nI (j := 5) (by decide) (by decide)) ?_
    rw [show F 5 = nI b from l1]
    have hev : ev (N.2 1) (upd Fc' 5 (nI (9 - N.1 2 s))) = ev (N.2 1) (fc (N.1 5 r) (σ 1 r) (mn σ (N.1 1) r) (mn σ (N.1 2) r) 0 (9 - N.1 2 s) 0 0) := ev_congM (fun c hc h8 => by
      have := hfa c hc h8
      rcases (show c = 0 ∨ c = 1 ∨ c = 2 ∨ c = 3 ∨ c = 5 by omega) with rfl | rfl | rfl | rfl | rfl
      · exact (pk_un (by decide)).trans q0
      · exact (pk_un (by decide)).trans q1
      · exact (pk_un (by decide)).trans q2
      · exact (pk_un (by decide)).trans q3
      · exact pk_us)
    refine ax_cV dX12_shockOf_58 mmX12_worthAt lkX12_288 miX12_worthAt msX12_worthAt (ax_recv_of ((ax_wr_ne (by decide)).trans (e145)) rfl) rfl rfl (Nat.le_of_ble_eq_true rfl) (Nat.le_of_ble_eq_true rfl) rfl rfl (k_worthAt (d := d + 1) hok l3 l4 l2 ((ax_wr_ne (by decide)).trans (e145)) ((ax_wr_ne (by decide)).trans (e152)) ((ax_wr_ne (by decide)).trans (e153)) ax_wr_eq ((ax_wr_ne (by decide)).trans (e158)) (fun K' => ⟨_, rfl, ?_⟩))
    rw [hev]
    refine ax_iconst dX12_shockOf_61 (v := nI 0) (by decide) ?_
    refine ax_bipush dX12_shockOf_62 (v := nI 100) (by decide) ?_
    refine ax_cS dX12_shockOf_64 mmX12_clip lkX12_291 mtX12_clip rfl rfl (Nat.le_of_ble_eq_true rfl) (Nat.le_of_ble_eq_true rfl) rfl rfl (k_clip ⟨_, rfl, ?_⟩)
    rw [(cl_eq (a := 0) (b := 100) (by decide) (by decide) _).1]
    have hb : But h (ax_wr (ax_wr h 157 (eI 8 (upd Fc' 5 (nI (9 - N.1 2 s))))) 158 (eI 1100 K')) mfP := (But.rf.wr (Or.inl rfl)).wr (Or.inr rfl)
    exact ax_ireturn dX12_shockOf_67 rfl (hq _ hb (hM.but hb ⟨_, (ax_wr_ne (by decide)).trans ax_wr_eq⟩ ⟨_, ax_wr_eq⟩))
theorem k_mendOf {r s p : Nat} (hr : r < nR N) (hs : s < nS N) (hN : nOK N) (hO : sOK N σ) (hF : FnB F N) (hL : FnL F O A N) (hS : Sb S N σ) (hM : MC h F S O A) (e145 : h.2.2 145 = some (eM th ta si pt fa co nm rd ask nw os sw bc bm gg))
    (hq : ∀ h', But h h' mfP → MC h' F S O A → Q (.inl (some (.int (nI (mend N σ r s p))))) h') : X G (d + 3) mX12_mendOf 0 (ax_in 4 [.ref 145, .int (nI r), .int (nI s), .int (nI p)]) [] h Q := by
  obtain ⟨e151, e152, e153, e159, -, ⟨K, e158⟩⟩ := id hM
  obtain ⟨-, -, -, -, fs, -⟩ := id hF
  have hR10 := hN.2.2.1
  have hS5 := hN.1
  have hok := hN.2.2.2.2.2.2.2.1 (by omega) 2 (by omega)
  have hfa := hN.2.2.2.2.2.2.2.2.2.2
  have hso := hN.2.2.2.2.1 s (by omega)
  rcases (hL (by omega)).2.2 with ⟨l1, l2⟩ | ⟨b, l1, l2, l3, l4⟩
  · have hpr : mend N σ r s p = N.1 1 s := by
      unfold mend
      rw [l2, ev_one (by omega)]
      exact cl_in (Nat.zero_le _) (by omega) (by decide)
    refine ax_aload_n dX12_mendOf_0 rfl ?_
    refine ax_getf dX12_mendOf_1 flX12_75 e145 rfl ?_
    refine ax_bipush dX12_mendOf_4 (v := nI 6) (by decide) ?_
    refine ax_iald dX12_mendOf_6 e151 (ax_ix_nI (j := 6) (by decide) (by decide)) ?_
    rw [show F 6 = -1 from l1]
    refine ax_if_geF 22 dX12_mendOf_7 (by decide) (by decide) ?_
    refine ax_aload_n dX12_mendOf_10 rfl ?_
    refine ax_getf dX12_mendOf_11 flX12_75 e145 rfl ?_
    refine ax_bipush dX12_mendOf_14 (v := nI 7) (by decide) ?_
    refine ax_iconst dX12_mendOf_16 (v := nI 2) (by decide) ?_
    refine ax_iload_n dX12_mendOf_17 rfl ?_
    refine ax_imul dX12_mendOf_18 ?_
    refine ax_iadd dX12_mendOf_19 ?_
    rw [pk_mul 2 s, nI_add 7 (2 * s)]
    refine ax_iald dX12_mendOf_20 e151 (ax_ix_nI (j := 7 + 2 * s) (by omega) (by decide)) ?_
    rw [(fs s hs).1]
    exact ax_ireturn dX12_mendOf_21 rfl (by rw [← hpr]; exact hq h But.rf hM)
  · refine ax_aload_n dX12_mendOf_0 rfl ?_
    refine ax_getf dX12_mendOf_1 flX12_75 e145 rfl ?_
    refine ax_bipush dX12_mendOf_4 (v := nI 6) (by decide) ?_
    refine ax_iald dX12_mendOf_6 e151 (ax_ix_nI (j := 6) (by decide) (by decide)) ?_
    rw [show F 6 = nI b from l1]
    refine ax_if_geT 22 dX12_mendOf_7 (by decide) (nI_pos' (by omega)) ?_
    refine ax_aload_n dX12_mendOf_22 rfl ?_
    refine ax_iload_n dX12_mendOf_23 rfl ?_
    refine ax_cV dX12_mendOf_24 mmX12_laysFacts lkX12_285 miX12_laysFacts msX12_laysFacts (ax_recv_of e145 rfl) rfl rfl (Nat.le_of_ble_eq_true rfl) (Nat.le_of_ble_eq_true rfl) rfl rfl (k_laysFacts (d := d) hr hN hO hF hS hM e145 (fun Fc' q0 q1 q2 q3 => ⟨_, rfl, ?_⟩))
    refine ax_aload_n dX12_mendOf_27 rfl ?_
    refine ax_getf dX12_mendOf_28 flX12_93 ((ax_wr_ne (by decide)).trans (e145)) rfl ?_
    refine ax_iconst dX12_mendOf_31 (v := nI 5) (by decide) ?_
    refine ax_bipush dX12_mendOf_32 (v := nI 9) (by decide) ?_
    refine ax_aload_n dX12_mendOf_34 rfl ?_
    refine ax_getf dX12_mendOf_35 flX12_75 ((ax_wr_ne (by decide)).trans (e145)) rfl ?_
    refine ax_bipush dX12_mendOf_38 (v := nI 7) (by decide) ?_
    refine ax_iconst dX12_mendOf_40 (v := nI 2) (by decide) ?_
    refine ax_iload_n dX12_mendOf_41 rfl ?_
    refine ax_imul dX12_mendOf_42 ?_
    refine ax_iadd dX12_mendOf_43 ?_
    refine ax_iconst dX12_mendOf_44 (v := nI 1) (by decide) ?_
    refine ax_iadd dX12_mendOf_45 ?_
    rw [pk_mul 2 s, nI_add 7 (2 * s), nI_add (7 + 2 * s) 1]
    refine ax_iald dX12_mendOf_46 ((ax_wr_ne (by decide)).trans (e151)) (ax_ix_nI (j := 7 + 2 * s + 1) (by omega) (by decide)) ?_
    rw [(fs s hs).2]
    refine ax_isub dX12_mendOf_47 ?_
    rw [pk_sub (show N.1 2 s ≤ 9 from hso.2)]
    refine ax_iast dX12_mendOf_48 ax_wr_eq (ax_ix_nI (j := 5) (by decide) (by decide)) ?_
    rw [ax_wr_wr]
    refine ax_aload_n dX12_mendOf_49 rfl ?_
    refine ax_getf dX12_mendOf_50 flX12_93 ((ax_wr_ne (by decide)).trans (e145)) rfl ?_
    refine ax_bipush dX12_mendOf_53 (v := nI 6) (by decide) ?_
    refine ax_iload_n dX12_mendOf_55 rfl ?_
    refine ax_iast dX12_mendOf_56 ax_wr_eq (ax_ix_nI (j := 6) (by decide) (by decide)) ?_
    rw [ax_wr_wr]
    refine ax_aload_n dX12_mendOf_57 rfl ?_
    refine ax_getf dX12_mendOf_58 flX12_93 ((ax_wr_ne (by decide)).trans (e145)) rfl ?_
    refine ax_bipush dX12_mendOf_61 (v := nI 7) (by decide) ?_
    refine ax_aload_n dX12_mendOf_63 rfl ?_
    refine ax_getf dX12_mendOf_64 flX12_75 ((ax_wr_ne (by decide)).trans (e145)) rfl ?_
    refine ax_bipush dX12_mendOf_67 (v := nI 7) (by decide) ?_
    refine ax_iconst dX12_mendOf_69 (v := nI 2) (by decide) ?_
    refine ax_iload_n dX12_mendOf_70 rfl ?_
    refine ax_imul dX12_mendOf_71 ?_
    refine ax_iadd dX12_mendOf_72 ?_
    rw [pk_mul 2 s, nI_add 7 (2 * s)]
    refine ax_iald dX12_mendOf_73 ((ax_wr_ne (by decide)).trans (e151)) (ax_ix_nI (j := 7 + 2 * s) (by omega) (by decide)) ?_
    rw [(fs s hs).1]
    refine ax_iast dX12_mendOf_74 ax_wr_eq (ax_ix_nI (j := 7) (by decide) (by decide)) ?_
    rw [ax_wr_wr]
    refine ax_aload_n dX12_mendOf_75 rfl ?_
    refine ax_aload_n dX12_mendOf_76 rfl ?_
    refine ax_getf dX12_mendOf_77 flX12_75 ((ax_wr_ne (by decide)).trans (e145)) rfl ?_
    refine ax_bipush dX12_mendOf_80 (v := nI 6) (by decide) ?_
    refine ax_iald dX12_mendOf_82 ((ax_wr_ne (by decide)).trans (e151)) (ax_ix_nI (j := 6) (by decide) (by decide)) ?_
    rw [show F 6 = nI b from l1]
    have hev : ev (N.2 2) (upd (upd (upd Fc' 5 (nI (9 - N.1 2 s))) 6 (nI p)) 7 (nI (N.1 1 s))) = ev (N.2 2) (fc (N.1 5 r) (σ 1 r) (mn σ (N.1 1) r) (mn σ (N.1 2) r) 0 (9 - N.1 2 s) p (N.1 1 s)) := ev_congM (fun c hc h8 => by
      have := hfa c hc h8
      rcases (show c = 0 ∨ c = 1 ∨ c = 2 ∨ c = 3 ∨ c = 5 ∨ c = 6 ∨ c = 7 by omega) with rfl | rfl | rfl | rfl | rfl | rfl | rfl
      · exact (pk_un (by decide)).trans ((pk_un (by decide)).trans ((pk_un (by decide)).trans q0))
      · exact (pk_un (by decide)).trans ((pk_un (by decide)).trans ((pk_un (by decide)).trans q1))
      · exact (pk_un (by decide)).trans ((pk_un (by decide)).trans ((pk_un (by decide)).trans q2))
      · exact (pk_un (by decide)).trans ((pk_un (by decide)).trans ((pk_un (by decide)).trans q3))
      · exact (pk_un (by decide)).trans ((pk_un (by decide)).trans pk_us)
      · exact (pk_un (by decide)).trans pk_us
      · exact pk_us)
    refine ax_cV dX12_mendOf_83 mmX12_worthAt lkX12_288 miX12_worthAt msX12_worthAt (ax_recv_of ((ax_wr_ne (by decide)).trans (e145)) rfl) rfl rfl (Nat.le_of_ble_eq_true rfl) (Nat.le_of_ble_eq_true rfl) rfl rfl (k_worthAt (d := d + 1) hok l3 l4 l2 ((ax_wr_ne (by decide)).trans (e145)) ((ax_wr_ne (by decide)).trans (e152)) ((ax_wr_ne (by decide)).trans (e153)) ax_wr_eq ((ax_wr_ne (by decide)).trans (e158)) (fun K' => ⟨_, rfl, ?_⟩))
    rw [hev]
    refine ax_iconst dX12_mendOf_86 (v := nI 0) (by decide) ?_
    refine ax_bipush dX12_mendOf_87 (v := nI 99) (by decide) ?_
    refine ax_cS dX12_mendOf_89 mmX12_clip lkX12_291 mtX12_clip rfl rfl (Nat.le_of_ble_eq_true rfl) (Nat.le_of_ble_eq_true rfl) rfl rfl (k_clip ⟨_, rfl, ?_⟩)
    rw [(cl_eq (a := 0) (b := 99) (by decide) (by decide) _).1]
    have hb : But h (ax_wr (ax_wr h 157 (eI 8 (upd (upd (upd Fc' 5 (nI (9 - N.1 2 s))) 6 (nI p)) 7 (nI (N.1 1 s))))) 158 (eI 1100 K')) mfP := (But.rf.wr (Or.inl rfl)).wr (Or.inr rfl)
    exact ax_ireturn dX12_mendOf_92 rfl (hq _ hb (hM.but hb ⟨_, (ax_wr_ne (by decide)).trans ax_wr_eq⟩ ⟨_, ax_wr_eq⟩))
end MK
