section MT
variable {G : ax_G} {d : Nat} {h : ax_H} {Q : ax_O → ax_H → Prop} {N : Nt} {σ : Sd}
variable {th ta si pt fa co nm rd ask nw os sw bc bm : Int32} {gg : Int64} {F S O A : Nat → Int32}
theorem isA.cg {k n m : Nat} {g g' : Nat → Nat} (a : isA h k n m g) (hg : ∀ j, j < m → g j = g' j) : isA h k n m g' := by
  obtain ⟨f, e, q⟩ := a
  exact ⟨f, e, fun j hj => by rw [q j hj, hg j hj]⟩
theorem Sb.kept {S' : Nat → Int32} (hN : nOK N) (hk : ∀ j, j < 111 → S' j = S j) (a : Sb S N σ) : Sb S' N σ := by
  obtain ⟨a1, a2, a3, a4⟩ := a
  have := hN.2.2.1
  exact ⟨(hk 0 (by omega)).trans a1, fun r hr => (hk _ (by omega)).trans (a2 r hr), fun c hc => (hk _ (by omega)).trans (a3 c hc), fun c hc => (hk _ (by omega)).trans (a4 c hc)⟩
def gtP : Nat → Prop := fun j => j = 145 ∨ j = 157 ∨ j = 158 ∨ j = 159 ∨ (161 ≤ j ∧ j ≤ 165)
theorem k_goesTrade {T t : Nat} {tr : Nat → Nat → Nat} {y : YA} (ht : t < T) (htr : trOK N T tr) (hTd : TdI F os T tr) (hN : nOK N) (hO : sOK N σ) (hF : FnB F N) (hL : FnL F O A N) (hS : Sb S N σ) (hM : MC h F S O A) (a161 : anA h 161 10) (a162 : anA h 162 10) (a163 : anA h 163 10) (a164 : isA h 164 50 50 (fun c => y.2.1 c + σ 3 c)) (a165 : isA h 165 10 10 y.1)
    (h5 : ∀ t, t < 6 → S (111 + t) = nI (y.2.2.2.1 t) - nI 1) (h6 : ∀ t, t < 6 → S (117 + t) = nI (y.2.2.2.2.1 t)) (e145 : h.2.2 145 = some (eM th ta si pt fa co nm rd ask nw os sw bc bm gg))
    (hq : ∀ h' S' bc' bm', But h h' gtP → h'.2.2 145 = some (eM th ta si pt fa co nm rd ask nw os sw bc' bm' gg) → MC h' F S' O A → anA h' 161 10 → anA h' 162 10 → anA h' 163 10 → (∀ j, (j < 111 ∨ 123 ≤ j) → S' j = S j) → isA h' 164 50 50 (fun c => (t1 N σ tr t y).2.1 c + σ 3 c) → isA h' 165 10 10 (t1 N σ tr t y).1 → (∀ i, i < 6 → S' (111 + i) = nI ((t1 N σ tr t y).2.2.2.1 i) - nI 1) → (∀ i, i < 6 → S' (117 + i) = nI ((t1 N σ tr t y).2.2.2.2.1 i)) → Q (.inl none) h') : X G (d + 10) mX12_goesTrade 0 (ax_in 7 [.ref 145, .int (nI t)]) [] h Q := by
  have hT6 := htr.1
  have hR := hN.2.2.1
  have hS5 := hN.1
  obtain ⟨-, -, hs5, hl9, hl1, -⟩ := htr.2 t ht
  refine ax_aload_n dX12_goesTrade_0 rfl ?_
  refine ax_iload_n dX12_goesTrade_1 rfl ?_
  refine ax_cV dX12_goesTrade_2 mmX12_findWay lkX12_320 miX12_findWay msX12_findWay (ax_recv_of e145 rfl) rfl rfl (Nat.le_of_ble_eq_true rfl) (Nat.le_of_ble_eq_true rfl) rfl rfl (k_findWay (d := d) ht htr hTd hN hO hF hL hS hM a161 a162 a163 e145 (fun h1 hb1 hM1 a161 a162 hG1 => ⟨_, rfl, ?_⟩))
  obtain ⟨e145, g1, g2, g3, Bf, e163, gB⟩ := id hG1
  have kp1 : ∀ j, ¬ fwP j → h1.2.2 j = h.2.2 j := fun j z => hb1.2.2 j z
  have a164 := a164.kept (kp1 164 (by unfold fwP; omega))
  have a165 := a165.kept (kp1 165 (by unfold fwP; omega))
  have hb1 : But h h1 gtP := hb1.wide (fun j z => by unfold fwP at z; unfold gtP; omega)
  have hwr := fwS_road (σ := σ) (tr := tr) (t := t) hN
  have fin : ∀ (l : Int32) (go : Int32) (h2 : ax_H) (ps ly : Nat → Nat) (o4 o5 o6 : Option Value), But h h2 gtP → h2.2.2 145 = some (eM th ta si pt fa co nm rd ask nw os sw (nI ((fwS N σ tr t).1 / 16)) (nI (fwS N σ tr t).2.length) gg) → MC h2 F S O A → anA h2 161 10 → anA h2 162 10 → anA h2 163 10 → isA h2 164 50 50 (fun c => (t1 N σ tr t y).2.1 c + σ 3 c) → isA h2 165 10 10 (t1 N σ tr t y).1 → l = nI ((t1 N σ tr t y).2.2.2.1 t) - nI 1 → (go = 0 ∧ (t1 N σ tr t y).2.2.2.2.1 = y.2.2.2.2.1 ∨ ¬ go = 0 ∧ ∃ v, l = nI v ∧ (t1 N σ tr t y).2.2.2.2.1 = adN y.2.2.2.2.1 t v) → (∀ i, i ≠ t → (t1 N σ tr t y).2.2.2.1 i = y.2.2.2.1 i) → X G (d + 10) mX12_goesTrade 108 [some (.ref 145), some (.int (nI t)), some (.int go), some (.int l), o4, o5, o6] [] h2 Q := by
    intro l go h2 ps ly o4 o5 o6 hb2 e145 hM2 a161 a162 a163 a164 a165 hl hgo h5n
    obtain ⟨e151, e152, e153, e159, a157, a158⟩ := id hM2
    have endX : ∀ x : Int32, S (117 + t) + x = nI ((t1 N σ tr t y).2.2.2.2.1 t) → (∀ i, i ≠ t → (t1 N σ tr t y).2.2.2.2.1 i = y.2.2.2.2.1 i) → X G (d + 10) mX12_goesTrade 137 [some (.ref 145), some (.int (nI t)), some (.int go), some (.int l), o4, o5, o6] [.int x, .int (upd S (111 + t) l (117 + t)), .int (nI (117 + t)), .ref 159] (ax_wr h2 159 (eI 12840 (upd S (111 + t) l))) Q := by
      intro x hx h6n
      refine ax_iadd dX12_goesTrade_137 ?_
      refine ax_iast dX12_goesTrade_138 ax_wr_eq (ax_ix_nI (j := 117 + t) (by omega) (by decide)) ?_
      rw [ax_wr_wr]
      have e1 : upd S (111 + t) l (117 + t) = S (117 + t) := pk_un (by omega)
      rw [e1]
      refine ax_return dX12_goesTrade_139 rfl (hq _ (upd (upd S (111 + t) l) (117 + t) (S (117 + t) + x)) _ _ (hb2.wr (by unfold gtP; omega)) ((ax_wr_ne (by decide)).trans e145) ⟨(ax_wr_ne (by decide)).trans e151, (ax_wr_ne (by decide)).trans e152, (ax_wr_ne (by decide)).trans e153, ax_wr_eq, a157.kept (ax_wr_ne (by decide)), a158.kept (ax_wr_ne (by decide))⟩ (a161.kept (ax_wr_ne (by decide))) (a162.kept (ax_wr_ne (by decide))) (a163.kept (ax_wr_ne (by decide))) (fun j z => by rw [pk_un (by omega), pk_un (by omega)]) (a164.kept (ax_wr_ne (by decide))) (a165.kept (ax_wr_ne (by decide))) (fun i hi => ?_) (fun i hi => ?_))
      · rw [pk_un (by omega)]
        by_cases hit : i = t
        · rw [hit, pk_us, hl]
        · rw [pk_un (by omega), h5 i hi, h5n i hit]
      · by_cases hit : i = t
        · rw [hit, pk_us, hx]
        · rw [pk_un (by omega), pk_un (by omega), h6 i hi, h6n i hit]
    refine ax_aload_n dX12_goesTrade_108 rfl ?_
    refine ax_getf dX12_goesTrade_109 flX12_99 e145 rfl ?_
    refine ax_bipush dX12_goesTrade_112 (v := nI 111) (by decide) ?_
    refine ax_iload_n dX12_goesTrade_114 rfl ?_
    refine ax_iadd dX12_goesTrade_115 ?_
    refine ax_iload_n dX12_goesTrade_116 rfl ?_
    rw [nI_add 111 t]
    refine ax_iast dX12_goesTrade_117 e159 (ax_ix_nI (j := 111 + t) (by omega) (by decide)) ?_
    refine ax_aload_n dX12_goesTrade_118 rfl ?_
    refine ax_getf dX12_goesTrade_119 flX12_99 ((ax_wr_ne (by decide)).trans (e145)) rfl ?_
    refine ax_bipush dX12_goesTrade_122 (v := nI 117) (by decide) ?_
    refine ax_iload_n dX12_goesTrade_124 rfl ?_
    refine ax_iadd dX12_goesTrade_125 ?_
    rw [nI_add 117 t]
    refine ax_dup2 dX12_goesTrade_126 rfl rfl ?_
    refine ax_iald dX12_goesTrade_127 ax_wr_eq (ax_ix_nI (j := 117 + t) (by omega) (by decide)) ?_
    rcases hgo with ⟨g0, e6⟩ | ⟨g0, v, hv, e6⟩
    · refine ax_iload_n dX12_goesTrade_128 rfl ?_
      refine ax_if_eqT 136 dX12_goesTrade_129 (by decide) g0 ?_
      refine ax_iconst dX12_goesTrade_136 (v := nI 0) (by decide) ?_
      exact endX 0 (by rw [h6 t (by omega), e6]; exact Int32.add_zero _) (fun i _ => by rw [e6])
    · refine ax_iload_n dX12_goesTrade_128 rfl ?_
      refine ax_if_eqF 136 dX12_goesTrade_129 (by decide) g0 ?_
      refine ax_iload_n dX12_goesTrade_132 rfl ?_
      refine ax_goto 137 dX12_goesTrade_133 (by decide) ?_
      refine endX l ?_ (fun i hi => by rw [e6]; exact if_neg hi)
      rw [h6 t (by omega), hv, nI_add, e6]
      exact congrArg nI (if_pos rfl).symm
  by_cases hfd : (wy N (pv N σ (tr 3 t)) (tr 0 t) (tr 1 t)).2 = some (tr 1 t)
  · have ef : fwS N σ tr t = ((bfN N (pv N σ (tr 3 t)) (tr 1 t) 7).1 (tr 0 t), (wy N (pv N σ (tr 3 t)) (tr 0 t) (tr 1 t)).1) := if_pos hfd
    have et : t1 N σ tr t y = ((cr N σ (tr 2 t) (fwS N σ tr t).2 (tr 3 t) y.1 y.2.1).2.1, (cr N σ (tr 2 t) (fwS N σ tr t).2 (tr 3 t) y.1 y.2.1).2.2, adN y.2.2.1 (tr 2 t) (tr 3 t - (cr N σ (tr 2 t) (fwS N σ tr t).2 (tr 3 t) y.1 y.2.1).1), upN y.2.2.2.1 t ((cr N σ (tr 2 t) (fwS N σ tr t).2 (tr 3 t) y.1 y.2.1).1 + 1), adN y.2.2.2.2.1 t (cr N σ (tr 2 t) (fwS N σ tr t).2 (tr 3 t) y.1 y.2.1).1, y.2.2.2.2.2 + (cr N σ (tr 2 t) (fwS N σ tr t).2 (tr 3 t) y.1 y.2.1).1) := by
      unfold t1
      rw [if_pos hfd, ef]
    rw [b1_t hfd]
    rw [et] at fin
    generalize fwS N σ tr t = w at *
    have loop : ∀ (w2 : List Nat) (i l : Nat) (ps ly : Nat → Nat) (h2 : ax_H) (o5 o6 : Option Value), w.2.drop i = w2 → i ≤ w.2.length → l ≤ tr 3 t → But h h2 gtP → h2.2.2 145 = some (eM th ta si pt fa co nm rd ask nw os sw (nI (w.1 / 16)) (nI w.2.length) gg) → MC h2 F S O A → anA h2 161 10 → anA h2 162 10 → h2.2.2 163 = some (eI 10 Bf) → isA h2 164 50 50 (fun c => ly c + σ 3 c) → isA h2 165 10 10 ps → cr N σ (tr 2 t) w2 l ps ly = cr N σ (tr 2 t) w.2 (tr 3 t) y.1 y.2.1 → X G (d + 10) mX12_goesTrade 24 [some (.ref 145), some (.int (nI t)), some (.int 1), some (.int (nI l)), some (.int (nI i)), o5, o6] [] h2 Q := by
      intro w2
      induction w2 with
      | nil =>
        intro i l ps ly h2 o5 o6 hd hil hll hb2 e145 hM2 a161 a162 e163 a164 a165 hcr
        have hi : w.2.length ≤ i := List.drop_eq_nil_iff.mp hd
        simp only [cr] at hcr
        refine ax_iload dX12_goesTrade_24 rfl ?_
        refine ax_aload_n dX12_goesTrade_26 rfl ?_
        refine ax_getf dX12_goesTrade_27 flX12_304 e145 rfl ?_
        refine ax_icmp_geT 108 dX12_goesTrade_30 (by decide) (nI_le (by omega) (by omega)) ?_
        refine fin (nI l) 1 h2 ps ly _ _ _ hb2 e145 hM2 a161 a162 ⟨_, e163⟩ (by rw [← hcr]; exact a164) (by rw [← hcr]; exact a165) ?_ (Or.inr ⟨by decide, l, rfl, by rw [← hcr]⟩) (fun i hi => if_neg hi)
        rw [← hcr]
        show nI l = nI (upN y.2.2.2.1 t (l + 1) t) - nI 1
        rw [upN_at, if_pos rfl, pk_sub (by omega), Nat.add_sub_cancel]
      | cons r w2 ih =>
        intro i l ps ly h2 o5 o6 hd hil hll hb2 e145 hM2 a161 a162 e163 a164 a165 hcr
        obtain ⟨hi, hg, hd1⟩ := dropC hd
        have hr : r < nR N := by rw [← hg]; rw [List.getD_eq_getElem?_getD, List.getElem?_eq_getElem hi]; exact hwr _ (List.getElem_mem hi)
        have hsh := shock_le N σ r (tr 2 t)
        have hfa := fall_le l N σ r (tr 2 t)
        have hmul := Nat.mul_le_mul_left l hsh
        obtain ⟨e151, e152, e153, e159, a157, a158⟩ := id hM2
        simp only [cr] at hcr
        refine ax_iload dX12_goesTrade_24 rfl ?_
        refine ax_aload_n dX12_goesTrade_26 rfl ?_
        refine ax_getf dX12_goesTrade_27 flX12_304 e145 rfl ?_
        refine ax_icmp_geF 108 dX12_goesTrade_30 (by decide) (nI_ge (by omega) (by omega)) ?_
        refine ax_iload_n dX12_goesTrade_33 rfl ?_
        refine ax_if_eqF 108 dX12_goesTrade_34 (by decide) (by decide) ?_
        refine ax_aload_n dX12_goesTrade_37 rfl ?_
        refine ax_getf dX12_goesTrade_38 flX12_118 e145 rfl ?_
        refine ax_iload dX12_goesTrade_41 rfl ?_
        refine ax_iald dX12_goesTrade_43 e163 (ax_ix_nI (by omega) (by decide)) ?_
        rw [gB i hi, hg]
        refine ax_istore dX12_goesTrade_44 (Nat.le_of_ble_eq_true rfl) ?_
        refine ax_iload_n dX12_goesTrade_46 rfl ?_
        refine ax_aload_n dX12_goesTrade_47 rfl ?_
        refine ax_iload dX12_goesTrade_48 rfl ?_
        refine ax_aload_n dX12_goesTrade_50 rfl ?_
        refine ax_iload_n dX12_goesTrade_51 rfl ?_
        refine ax_iconst dX12_goesTrade_52 (v := nI 2) (by decide) ?_
        refine ax_cV dX12_goesTrade_53 mmX12_tradeOf lkX12_294 miX12_tradeOf msX12_tradeOf (ax_recv_of e145 rfl) rfl rfl (Nat.le_of_ble_eq_true rfl) (Nat.le_of_ble_eq_true rfl) rfl rfl (k_tradeOf (i := 2) (by omega) (by omega) e145 e151 ⟨_, rfl, ?_⟩)
        rw [hTd t ht 2 (by omega)]
        refine ax_cV dX12_goesTrade_56 mmX12_shockOf lkX12_323 miX12_shockOf msX12_shockOf (ax_recv_of e145 rfl) rfl rfl (Nat.le_of_ble_eq_true rfl) (Nat.le_of_ble_eq_true rfl) rfl rfl (k_shockOf (d := d + 6) hr hs5 hN hO hF hL hS hM2 e145 (fun h3 hb3 hM3 => ⟨_, rfl, ?_⟩))
        have kp3 : ∀ j, ¬ mfP j → h3.2.2 j = h2.2.2 j := fun j z => hb3.2.2 j z
        have e145 := (kp3 145 (by unfold mfP; omega)).trans e145
        have e163 := (kp3 163 (by unfold mfP; omega)).trans e163
        obtain ⟨f164, e164, q164⟩ := a164.kept (kp3 164 (by unfold mfP; omega))
        obtain ⟨f165, e165, q165⟩ := a165.kept (kp3 165 (by unfold mfP; omega))
        have a161 := a161.kept (kp3 161 (by unfold mfP; omega))
        have a162 := a162.kept (kp3 162 (by unfold mfP; omega))
        obtain ⟨e151, e152, e153, e159, a157, a158⟩ := id hM3
        refine ax_imul dX12_goesTrade_59 ?_
        rw [pk_mul l (shock N σ r (tr 2 t))]
        refine ax_bipush dX12_goesTrade_60 (v := nI 100) (by decide) ?_
        refine ax_idiv dX12_goesTrade_62 (by decide) ?_
        rw [pk_div (show l * shock N σ r (tr 2 t) < 2 ^ 31 by omega) (show 0 < 100 by decide) (by decide)]
        refine ax_istore dX12_goesTrade_63 (Nat.le_of_ble_eq_true rfl) ?_
        refine ax_aload_n dX12_goesTrade_65 rfl ?_
        refine ax_getf dX12_goesTrade_66 flX12_124 e145 rfl ?_
        refine ax_iload dX12_goesTrade_69 rfl ?_
        refine ax_dup2 dX12_goesTrade_71 rfl rfl ?_
        refine ax_iald dX12_goesTrade_72 e165 (ax_ix_nI (j := r) (by omega) (by decide)) ?_
        refine ax_iload_n dX12_goesTrade_73 rfl ?_
        refine ax_iadd dX12_goesTrade_74 ?_
        refine ax_iast dX12_goesTrade_75 e165 (ax_ix_nI (j := r) (by omega) (by decide)) ?_
        refine ax_aload_n dX12_goesTrade_76 rfl ?_
        refine ax_getf dX12_goesTrade_77 flX12_121 ((ax_wr_ne (by decide)).trans (e145)) rfl ?_
        refine ax_iconst dX12_goesTrade_80 (v := nI 5) (by decide) ?_
        refine ax_iload dX12_goesTrade_81 rfl ?_
        refine ax_imul dX12_goesTrade_83 ?_
        rw [pk_mul 5 r]
        refine ax_aload_n dX12_goesTrade_84 rfl ?_
        refine ax_iload_n dX12_goesTrade_85 rfl ?_
        refine ax_iconst dX12_goesTrade_86 (v := nI 2) (by decide) ?_
        refine ax_cV dX12_goesTrade_87 mmX12_tradeOf lkX12_294 miX12_tradeOf msX12_tradeOf (ax_recv_of ((ax_wr_ne (by decide)).trans (e145)) rfl) rfl rfl (Nat.le_of_ble_eq_true rfl) (Nat.le_of_ble_eq_true rfl) rfl rfl (k_tradeOf (i := 2) (by omega) (by omega) ((ax_wr_ne (by decide)).trans (e145)) ((ax_wr_ne (by decide)).trans (e151)) ⟨_, rfl, ?_⟩)
        rw [hTd t ht 2 (by omega)]
        refine ax_iadd dX12_goesTrade_90 ?_
        rw [nI_add (5 * r) (tr 2 t)]
        refine ax_dup2 dX12_goesTrade_91 rfl rfl ?_
        refine ax_iald dX12_goesTrade_92 ((ax_wr_ne (by decide)).trans (e164)) (ax_ix_nI (j := 5 * r + tr 2 t) (by omega) (by decide)) ?_
        refine ax_iload dX12_goesTrade_93 rfl ?_
        refine ax_iadd dX12_goesTrade_95 ?_
        refine ax_iast dX12_goesTrade_96 ((ax_wr_ne (by decide)).trans (e164)) (ax_ix_nI (j := 5 * r + tr 2 t) (by omega) (by decide)) ?_
        refine ax_iload_n dX12_goesTrade_97 rfl ?_
        refine ax_iload dX12_goesTrade_98 rfl ?_
        refine ax_isub dX12_goesTrade_100 ?_
        refine ax_istore_n dX12_goesTrade_101 (Nat.le_of_ble_eq_true rfl) ?_
        refine ax_iinc dX12_goesTrade_102 rfl (ax_inc 1) ?_
        refine ax_goto 24 dX12_goesTrade_105 (by decide) ?_
        rw [pk_sub hfa, nI_add i 1]
        refine ih (i + 1) _ (adN ps r l) (adN ly (5 * r + tr 2 t) (l * shock N σ r (tr 2 t) / 100)) _ _ _ hd1 (by omega) (by omega) (((hb2.tr (hb3.wide (fun j z => by unfold mfP at z; unfold gtP; omega))).wr (by unfold gtP; omega)).wr (by unfold gtP; omega)) ((ax_wr_ne (by decide)).trans ((ax_wr_ne (by decide)).trans e145)) ⟨(ax_wr_ne (by decide)).trans ((ax_wr_ne (by decide)).trans e151), (ax_wr_ne (by decide)).trans ((ax_wr_ne (by decide)).trans e152), (ax_wr_ne (by decide)).trans ((ax_wr_ne (by decide)).trans e153), (ax_wr_ne (by decide)).trans ((ax_wr_ne (by decide)).trans e159), a157.kept ((ax_wr_ne (by decide)).trans (ax_wr_ne (by decide))), a158.kept ((ax_wr_ne (by decide)).trans (ax_wr_ne (by decide)))⟩ (a161.kept ((ax_wr_ne (by decide)).trans (ax_wr_ne (by decide)))) (a162.kept ((ax_wr_ne (by decide)).trans (ax_wr_ne (by decide)))) ((ax_wr_ne (by decide)).trans ((ax_wr_ne (by decide)).trans e163)) ?_ ?_ hcr
        · refine (show isA _ 164 50 50 (adN (fun c => ly c + σ 3 c) (5 * r + tr 2 t) (l * shock N σ r (tr 2 t) / 100)) from ⟨_, ax_wr_eq, isA_ad q164 (by omega)⟩).cg (fun c hc => ?_)
          unfold adN
          by_cases hce : c = 5 * r + tr 2 t
          · rw [if_pos hce, if_pos hce, hce]
            show ly (5 * r + tr 2 t) + σ 3 (5 * r + tr 2 t) + _ = ly (5 * r + tr 2 t) + _ + σ 3 (5 * r + tr 2 t)
            omega
          · rw [if_neg hce, if_neg hce]
        · exact ⟨_, (ax_wr_ne (by decide)).trans ax_wr_eq, isA_ad q165 (by omega)⟩
    refine ax_istore_n dX12_goesTrade_5 (Nat.le_of_ble_eq_true rfl) ?_
    refine ax_iload_n dX12_goesTrade_6 rfl ?_
    refine ax_if_eqF 19 dX12_goesTrade_7 (by decide) (by decide) ?_
    refine ax_aload_n dX12_goesTrade_10 rfl ?_
    refine ax_iload_n dX12_goesTrade_11 rfl ?_
    refine ax_iconst dX12_goesTrade_12 (v := nI 3) (by decide) ?_
    refine ax_cV dX12_goesTrade_13 mmX12_tradeOf lkX12_294 miX12_tradeOf msX12_tradeOf (ax_recv_of e145 rfl) rfl rfl (Nat.le_of_ble_eq_true rfl) (Nat.le_of_ble_eq_true rfl) rfl rfl (k_tradeOf (i := 3) (by omega) (by omega) e145 hM1.1 ⟨_, rfl, ?_⟩)
    rw [hTd t ht 3 (by omega)]
    refine ax_goto 20 dX12_goesTrade_16 (by decide) ?_
    refine ax_istore_n dX12_goesTrade_20 (Nat.le_of_ble_eq_true rfl) ?_
    refine ax_iconst dX12_goesTrade_21 (v := nI 0) (by decide) ?_
    refine ax_istore dX12_goesTrade_22 (Nat.le_of_ble_eq_true rfl) ?_
    exact loop w.2 0 (tr 3 t) y.1 y.2.1 h1 none none rfl (by omega) (Nat.le_refl _) hb1 e145 hM1 a161 a162 e163 a164 a165 rfl
  · have et : t1 N σ tr t y = (y.1, y.2.1, y.2.2.1, upN y.2.2.2.1 t 0, y.2.2.2.2.1, y.2.2.2.2.2) := by
      unfold t1
      rw [if_neg hfd]
    have ef : fwS N σ tr t = (1600000000, []) := if_neg hfd
    rw [b1_f hfd]
    rw [et] at fin
    rw [ef] at fin e145
    refine ax_istore_n dX12_goesTrade_5 (Nat.le_of_ble_eq_true rfl) ?_
    refine ax_iload_n dX12_goesTrade_6 rfl ?_
    refine ax_if_eqT 19 dX12_goesTrade_7 (by decide) rfl ?_
    refine ax_iconst dX12_goesTrade_19 (v := -1) (by decide) ?_
    refine ax_istore_n dX12_goesTrade_20 (Nat.le_of_ble_eq_true rfl) ?_
    refine ax_iconst dX12_goesTrade_21 (v := nI 0) (by decide) ?_
    refine ax_istore dX12_goesTrade_22 (Nat.le_of_ble_eq_true rfl) ?_
    refine ax_iload dX12_goesTrade_24 rfl ?_
    refine ax_aload_n dX12_goesTrade_26 rfl ?_
    refine ax_getf dX12_goesTrade_27 flX12_304 e145 rfl ?_
    refine ax_icmp_geT 108 dX12_goesTrade_30 (by decide) (by decide) ?_
    refine fin (-1) 0 h1 y.1 y.2.1 _ _ _ hb1 e145 hM1 a161 a162 ⟨_, e163⟩ a164 a165 ?_ (Or.inl ⟨rfl, rfl⟩) (fun i hi => if_neg hi)
    show (-1 : Int32) = nI (upN y.2.2.2.1 t 0 t) - nI 1
    rw [upN_at, if_pos rfl]
    decide
end MT
