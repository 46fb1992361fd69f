/-! ===== the model: a law is read ===== -/
section MLW
variable {G : ax_G} {d : Nat} {h : ax_H} {Q : ax_O → ax_H → Prop}
variable {th ta si pt fa co nm rd ask nw os sw bc bm : Int32} {gg : Int64}
variable {ts : List CT} {So Va : Nat → Nat} {s : Nat × Nat} {r : RS}
def lwP : Nat → Prop := fun j => j = 145 ∨ j = 151 ∨ j = 152 ∨ j = 153
theorem PsR.k6 {h' : ax_H} (a : PsR h ts So Va) (hb : But h h' lwP) : PsR h' ts So Va := a.kept (fun j z1 z2 => hb.2.2 j (by unfold lwP; omega))
theorem mLine_law {w : Nat} (hw : w < 3) (hk : kA ts r.1.1 = 20 + w) : mLine ts r = ((mLaw ts w r.2.2.2 r.1).1, w, r.2.2.1, (mLaw ts w r.2.2.2 r.1).2) := by
  unfold mLine
  have w3 : w = 0 ∨ w = 1 ∨ w = 2 := by omega
  rcases w3 with q | q | q <;> subst q
  · rw [if_neg (by omega), if_neg (by omega), if_neg (by omega), if_neg (by omega), if_pos hk]
  · rw [if_neg (by omega), if_neg (by omega), if_neg (by omega), if_neg (by omega), if_neg (by omega), if_pos hk]
  · rw [if_neg (by omega), if_neg (by omega), if_neg (by omega), if_neg (by omega), if_neg (by omega), if_neg (by omega), if_pos hk]
theorem k_readLaw {F O A : Nat → Int32} (h0 : r.1.2 = 0) (hk : ¬ kA ts r.1.1 = 0) (hnk : ¬ kA ts r.1.1 = 15 ∧ ¬ kA ts r.1.1 = 16 ∧ ¬ kA ts r.1.1 = 17 ∧ ¬ kA ts r.1.1 = 18) (hlen : r.2.2.2.1.length ≤ r.1.1) (hL : LwM F O A r.2.2.2 (cnL r.2.2.2)) (ht : tsOK ts) (hE : tsE ts) (hs : sOKs ts r.1) (hT : TkQ ts So Va) (e145 : h.2.2 145 = some (eM th ta si (nI r.1.1) (nI r.1.2) (nI (cnL r.2.2.2 + r.2.2.2.1.length)) nm rd ask nw os sw bc bm gg)) (hP : PsR h ts So Va) (e151 : h.2.2 151 = some (eI 168 F)) (e152 : h.2.2 152 = some (eI 2200 O)) (e153 : h.2.2 153 = some (eI 2200 A))
    (hq : ∀ h' F' O' A' p co' rd', But h h' lwP → sOKs ts p → sSkip ts 6 p = (mLine ts r).1 → h'.2.2 145 = some (eM th ta si (nI p.1) (nI p.2) (co') nm (rd') ask nw os sw bc bm gg) → h'.2.2 151 = some (eI 168 F') → h'.2.2 152 = some (eI 2200 O') → h'.2.2 153 = some (eI 2200 A') → (∀ j, j < 88 ∨ 91 ≤ j → F' j = F j) → (∀ j, j < 1100 → O' j = O j ∧ A' j = A j) → ((mLine ts r).1.2 = 0 → (mLine ts r).2.2.1 = r.2.2.1 ∧ LwM F' O' A' (mLine ts r).2.2.2 (cnL (mLine ts r).2.2.2) ∧ co' = nI (cnL (mLine ts r).2.2.2 + (mLine ts r).2.2.2.1.length)) → Q (.inl none) h') : X G (d + 32) mX12_readLaw 0 (ax_in 2 [.ref 145]) [] h Q := by
  have hs1 := hs.1
  have ht1 := ht.1
  have fin1 : ∀ (h1 : ax_H) (x : Int32), But h h1 (fun j => j = 145) → h1.2.2 145 = some (eM th ta si (nI r.1.1) (nI r.1.2) (nI (cnL r.2.2.2 + r.2.2.2.1.length)) nm (-1) ask nw os sw bc bm gg) → (∀ i, i < 3 → ¬ kA ts r.1.1 = 20 + i) → X G (d + 32) mX12_readLaw 41 [some (.ref 145), some (.int x)] [] h1 Q := by
    intro h1 x hb1 e145 hn
    have n0 := hn 0 (by omega)
    have n1 := hn 1 (by omega)
    have n2 := hn 2 (by omega)
    have em : mLine ts r = (sFail ts 1 r.1, r.2) := by
      unfold mLine
      rw [if_neg hnk.1, if_neg hnk.2.1, if_neg hnk.2.2.1, if_neg hnk.2.2.2, if_neg n0, if_neg n1, if_neg n2]
    rw [em] at hq
    refine ax_aload_n dX12_readLaw_41 rfl ?_
    refine ax_getf dX12_readLaw_42 flX12_231 e145 rfl ?_
    refine ax_if_geF 54 dX12_readLaw_45 (by decide) (by decide) ?_
    refine ax_aload_n dX12_readLaw_48 rfl ?_
    refine ax_iconst dX12_readLaw_49 (v := nI 1) (by decide) ?_
    refine ax_cV dX12_readLaw_50 mmX12_wrong lkX12_162 miX12_wrong msX12_wrong (ax_recv_of e145 rfl) rfl rfl (Nat.le_of_ble_eq_true rfl) (Nat.le_of_ble_eq_true rfl) rfl rfl (k_wrong (d := d + 31) (k := 1) (by omega) ht hs e145 (hP.k1 hb1) (fun h2 hb2 e145 => ⟨_, rfl, ?_⟩))
    have hb2 := hb1.tr hb2
    exact ax_return dX12_readLaw_53 rfl (hq h2 F O A (sFail ts 1 r.1) _ _ (hb2.wide (fun j z => Or.inl z)) (sFail_ok (by omega) ht hs) (sSkip_f (sFail_f (by omega))) e145 ((hb2.2.2 151 (by decide)).trans e151) ((hb2.2.2 152 (by decide)).trans e152) ((hb2.2.2 153 (by decide)).trans e153) (fun _ _ => rfl) (fun _ _ => ⟨rfl, rfl⟩) (fun z => absurd z (sFail_f (by omega))))
  have fin2 : ∀ (h1 : ax_H) (x : Int32) (w : Nat), w < 3 → kA ts r.1.1 = 20 + w → But h h1 (fun j => j = 145) → h1.2.2 145 = some (eM th ta si (nI r.1.1) (nI r.1.2) (nI (cnL r.2.2.2 + r.2.2.2.1.length)) nm (nI w) ask nw os sw bc bm gg) → X G (d + 32) mX12_readLaw 41 [some (.ref 145), some (.int x)] [] h1 Q := by
    intro h1 x w hw hkw hb1 e145
    rw [mLine_law hw hkw] at hq
    have e151 := (hb1.2.2 151 (by decide)).trans e151
    have e152 := (hb1.2.2 152 (by decide)).trans e152
    have e153 := (hb1.2.2 153 (by decide)).trans e153
    refine ax_aload_n dX12_readLaw_41 rfl ?_
    refine ax_getf dX12_readLaw_42 flX12_231 e145 rfl ?_
    refine ax_if_geT 54 dX12_readLaw_45 (by decide) (Int32.not_lt.mp (nI_nlt (b := 0) (Nat.zero_le _) (by omega))) ?_
    refine ax_bipush dX12_readLaw_54 (v := nI 88) (by decide) ?_
    refine ax_aload_n dX12_readLaw_56 rfl ?_
    refine ax_getf dX12_readLaw_57 flX12_231 e145 rfl ?_
    refine ax_iadd dX12_readLaw_60 ?_
    rw [nI_add 88 w]
    refine ax_istore_n dX12_readLaw_61 (Nat.le_of_ble_eq_true rfl) ?_
    refine ax_aload_n dX12_readLaw_62 rfl ?_
    refine ax_getf dX12_readLaw_63 flX12_75 e145 rfl ?_
    refine ax_iload_n dX12_readLaw_66 rfl ?_
    refine ax_iald dX12_readLaw_67 e151 (ax_ix_nI (j := 88 + w) (by omega) (by decide)) ?_
    have cl := cnL_le (L := r.2.2.2)
    rcases hL w hw with ⟨a1, a2⟩ | ⟨b, b1, b2, b3, b4, -, -⟩
    · rw [a1]
      have os1 : sOKs ts (sStep ts r.1) := sStep_ok hs
      have st1 := sStep_y hE hs h0 hk
      have a1' : (sStep ts r.1).1 = r.1.1 + 1 := by rw [st1]
      have oe : eOK ts (sStep ts r.1, r.2.2.2.1, r.2.2.2.2.2.2) := ⟨os1, by dsimp only; omega⟩
      have ol : (sStep ts r.1, r.2.2.2.1, r.2.2.2.2.2.2).2.1.length ≤ (sStep ts r.1, r.2.2.2.1, r.2.2.2.2.2.2).1.1 := by dsimp only; omega
      have oZ := joinAll_ok (mPart_ok (l := w) ht 5) _ oe
      have gZ := joinAll_gr hE (mPart_ok (l := w) ht 5) (mPart_gr ht hE 5) _ oe
      have pZ := joinAll_pf (ts := ts) (mPart_pf (ts := ts) (l := w) 5) (sStep ts r.1, r.2.2.2.1, r.2.2.2.2.2.2)
      have qZ := joinAll_gp hE (mPart_ok (l := w) ht 5) (mPart_gr ht hE 5) (mPart_gp hw ht hE 5) _ oe ol
      have em : mLaw ts w r.2.2.2 r.1 = (sSkip ts 6 (joinAll ts (mPart ts w 5) (sStep ts r.1, r.2.2.2.1, r.2.2.2.2.2.2)).1, (joinAll ts (mPart ts w 5) (sStep ts r.1, r.2.2.2.1, r.2.2.2.2.2.2)).2.1, upN r.2.2.2.2.1 w r.2.2.2.1.length, upN r.2.2.2.2.2.1 w (joinAll ts (mPart ts w 5) (sStep ts r.1, r.2.2.2.1, r.2.2.2.2.2.2)).2.1.length, (joinAll ts (mPart ts w 5) (sStep ts r.1, r.2.2.2.1, r.2.2.2.2.2.2)).2.2) := by
        unfold mLaw
        rw [decide_eq_false a2]
        rfl
      rw [em] at hq
      dsimp only at hq
      have all : ∀ (h2 : ax_H), But h h2 lwP → h2.2.2 145 = some (eM th ta si (nI (sStep ts r.1).1) (nI (sStep ts r.1).2) (nI (cnL r.2.2.2 + r.2.2.2.1.length)) nm (nI w) ask nw os sw bc bm gg) → h2.2.2 151 = some (eI 168 (upd F (88 + w) (nI (cnL r.2.2.2 + r.2.2.2.1.length)))) → h2.2.2 152 = some (eI 2200 O) → h2.2.2 153 = some (eI 2200 A) → X G (d + 32) mX12_readLaw 97 [some (.ref 145), some (.int (nI (88 + w)))] [] h2 Q := by
        intro h2 hb2 e145 e151 e152 e153
        refine ax_aload_n dX12_readLaw_97 rfl ?_
        refine ax_iconst dX12_readLaw_98 (v := nI 0) (by decide) ?_
        refine ax_cV dX12_readLaw_99 mmX12_all lkX12_234 miX12_all msX12_all (ax_recv_of e145 rfl) rfl rfl (Nat.le_of_ble_eq_true rfl) (Nat.le_of_ble_eq_true rfl) rfl rfl (k_expr (d := d) cl hw ht hE hT (sStep ts r.1, r.2.2.2.1, r.2.2.2.2.2.2) h2 _ O A O A r.2.2.2.1.length oe ol e145 (hP.k6 hb2) e152 e153 ⟨Nat.le_refl _, fun j _ => ⟨rfl, rfl⟩, fun j z1 z2 => absurd z2 (by dsimp only; omega)⟩ (fun h3 O3 A3 hb3 e145 e152 e153 hX3 => ⟨_, rfl, ?_⟩))
        generalize joinAll ts (mPart ts w 5) (sStep ts r.1, r.2.2.2.1, r.2.2.2.2.2.2) = e3 at hq oZ gZ pZ qZ e145 hX3
        have gz2 := gZ.2.1
        dsimp only at gz2
        have oz1 := oZ.1.1
        have e151 := (hb3.2.2 151 (by unfold exP; omega)).trans e151
        have hb3 := hb2.tr (hb3.wide (P' := lwP) (fun j z => by unfold exP at z; unfold lwP; omega))
        refine ax_aload_n dX12_readLaw_102 rfl ?_
        refine ax_iconst dX12_readLaw_103 (v := nI 0) (by decide) ?_
        refine ax_iconst dX12_readLaw_104 (v := nI 0) (by decide) ?_
        refine ax_cV dX12_readLaw_105 mmX12_emit lkX12_237 miX12_emit msX12_emit (ax_recv_of e145 rfl) rfl rfl (Nat.le_of_ble_eq_true rfl) (Nat.le_of_ble_eq_true rfl) rfl rfl (k_emit (o := 0) (a := 0) (k := cnL r.2.2.2 + e3.2.1.length) (d := d + 31) (by omega) e145 e152 e153 (fun h4 hb4 e145 e152 e153 => ⟨_, rfl, ?_⟩))
        have e151 := (hb4.2.2 151 (by unfold exP; omega)).trans e151
        have hb4 := hb3.tr (hb4.wide (P' := lwP) (fun j z => by unfold exP at z; unfold lwP; omega))
        refine ax_return dX12_readLaw_108 rfl (hq h4 _ _ _ e3.1 _ _ hb4 oZ.1 rfl e145 e151 e152 e153 (fun j z => upd_ne (by omega)) (fun j z => ?_) (fun z => ?_))
        · rw [upd_ne (by omega), upd_ne (by omega)]
          exact hX3.2.1 j (by omega)
        · have z2 := (sSkip_0 z).1
          have qq := (qZ z2).2
          dsimp only at qq
          obtain ⟨c1, c2⟩ := cnL_up (cs := e3.2.1) (hl := e3.2.2) hw a2 qq
          refine ⟨rfl, ?_, ?_⟩
          · rw [c1]
            exact hL.law hw pZ qq hX3
          · rw [c1]
            congr 1
            omega
      refine ax_if_ltT 77 dX12_readLaw_68 (by decide) (by decide) ?_
      refine ax_aload_n dX12_readLaw_77 rfl ?_
      refine ax_dup dX12_readLaw_78 rfl ?_
      refine ax_getf dX12_readLaw_79 flX12_153 e145 rfl ?_
      refine ax_iconst dX12_readLaw_82 (v := nI 1) (by decide) ?_
      refine ax_iadd dX12_readLaw_83 ?_
      refine ax_putf dX12_readLaw_84 flX12_153 e145 (Nat.le_of_ble_eq_true rfl) (fun _ => ⟨rfl, rfl⟩) ?_
      rw [nI_add r.1.1 1, ← a1', show nI r.1.2 = nI (sStep ts r.1).2 from by rw [st1, h0]]
      refine ax_aload_n dX12_readLaw_87 rfl ?_
      refine ax_getf dX12_readLaw_88 flX12_75 ax_wr_eq rfl ?_
      refine ax_iload_n dX12_readLaw_91 rfl ?_
      refine ax_aload_n dX12_readLaw_92 rfl ?_
      refine ax_getf dX12_readLaw_93 flX12_185 ax_wr_eq rfl ?_
      refine ax_iast dX12_readLaw_96 ((ax_wr_ne (by decide)).trans (e151)) (ax_ix_nI (j := 88 + w) (by omega) (by decide)) ?_
      exact all _ (((hb1.wide (P' := lwP) (fun j z => Or.inl z)).wr (Or.inl rfl)).wr (Or.inr (Or.inl rfl))) ((ax_wr_ne (by decide)).trans ax_wr_eq) ax_wr_eq ((ax_wr_ne (by decide)).trans ((ax_wr_ne (by decide)).trans e152)) ((ax_wr_ne (by decide)).trans ((ax_wr_ne (by decide)).trans e153))
    · rw [b1]
      have em : mLaw ts w r.2.2.2 r.1 = (sFail ts 3 r.1, (mLaw ts w r.2.2.2 r.1).2) := by
        unfold mLaw
        rw [decide_eq_true b2]
        dsimp only
        rw [show (!true) = false from rfl, sOpen_n (by omega), joinAll_z (sFail_f (by omega))]
        rw [sSkip_f (sFail_f (by omega))]
      rw [em] at hq
      dsimp only at hq
      refine ax_if_ltF 77 dX12_readLaw_68 (by decide) (nI_nlt (b := 0) (Nat.zero_le _) (by omega)) ?_
      refine ax_aload_n dX12_readLaw_71 rfl ?_
      refine ax_iconst dX12_readLaw_72 (v := nI 3) (by decide) ?_
      refine ax_cV dX12_readLaw_73 mmX12_wrong lkX12_162 miX12_wrong msX12_wrong (ax_recv_of e145 rfl) rfl rfl (Nat.le_of_ble_eq_true rfl) (Nat.le_of_ble_eq_true rfl) rfl rfl (k_wrong (d := d + 31) (k := 3) (by omega) ht hs e145 (hP.k1 hb1) (fun h2 hb2 e145 => ⟨_, rfl, ?_⟩))
      exact ax_return dX12_readLaw_76 rfl (hq h2 F O A (sFail ts 3 r.1) _ _ ((hb1.tr hb2).wide (fun j z => Or.inl z)) (sFail_ok (by omega) ht hs) (sSkip_f (sFail_f (by omega))) e145 ((hb2.2.2 151 (by decide)).trans e151) ((hb2.2.2 152 (by decide)).trans e152) ((hb2.2.2 153 (by decide)).trans e153) (fun _ _ => rfl) (fun _ _ => ⟨rfl, rfl⟩) (fun z => absurd z (sFail_f (by omega))))
  have loop : ∀ (m j : Nat) (c : Int32) (h1 : ax_H), j + m = 3 → But h h1 (fun j => j = 145) → h1.2.2 145 = some (eM th ta si (nI r.1.1) (nI r.1.2) (nI (cnL r.2.2.2 + r.2.2.2.1.length)) nm c ask nw os sw bc bm gg) → ((c = -1 ∧ ∀ i, i < j → ¬ kA ts r.1.1 = 20 + i) ∨ ∃ i, i < j ∧ c = nI i ∧ kA ts r.1.1 = 20 + i) → X G (d + 32) mX12_readLaw 7 [some (.ref 145), some (.int (nI j))] [] h1 Q := by
    intro m
    induction m with
    | zero =>
      intro j c h1 hj hb1 e145 hc
      refine ax_iload_n dX12_readLaw_7 rfl ?_
      refine ax_iconst dX12_readLaw_8 (v := nI 3) (by decide) ?_
      refine ax_icmp_geT 41 dX12_readLaw_9 (by decide) (nI_le (by omega) (by omega)) ?_
      rcases hc with ⟨c1, c2⟩ | ⟨i, c1, c2, c3⟩
      · rw [c1] at e145
        exact fin1 h1 _ hb1 e145 (fun i z => c2 i (by omega))
      · rw [c2] at e145
        exact fin2 h1 _ i (by omega) c3 hb1 e145
    | succ m ih =>
      intro j c h1 hj hb1 e145 hc
      have kw : kwK (10 + j) = 20 + j := by
        have : ∀ j : Nat, j < 3 → kwK (10 + j) = 20 + j := by decide
        exact this j (by omega)
      refine ax_iload_n dX12_readLaw_7 rfl ?_
      refine ax_iconst dX12_readLaw_8 (v := nI 3) (by decide) ?_
      refine ax_icmp_geF 41 dX12_readLaw_9 (by decide) (nI_ge (by omega) (by omega)) ?_
      refine ax_aload_n dX12_readLaw_12 rfl ?_
      refine ax_aload_n dX12_readLaw_13 rfl ?_
      refine ax_bipush dX12_readLaw_14 (v := nI 10) (by decide) ?_
      refine ax_iload_n dX12_readLaw_16 rfl ?_
      refine ax_iadd dX12_readLaw_17 ?_
      rw [nI_add 10 j]
      refine ax_cV dX12_readLaw_18 mmX12_isWord lkX12_166 miX12_isWord msX12_isWord (ax_recv_of e145 rfl) rfl rfl (Nat.le_of_ble_eq_true rfl) (Nat.le_of_ble_eq_true rfl) rfl rfl (k_isWord (w := 10 + j) (d := d + 31) (by omega) ht hs hT e145 (hP.k1 hb1) ⟨_, rfl, ?_⟩)
      by_cases hkj : kA ts r.1.1 = 20 + j
      · rw [b1_t (show r.1.2 = 0 ∧ kA ts r.1.1 = kwK (10 + j) from ⟨h0, by rw [kw]; exact hkj⟩)]
        refine ax_if_eqF 28 dX12_readLaw_21 (by decide) (by decide) ?_
        refine ax_iload_n dX12_readLaw_24 rfl ?_
        refine ax_goto 32 dX12_readLaw_25 (by decide) ?_
        refine ax_putf dX12_readLaw_32 flX12_231 e145 (Nat.le_of_ble_eq_true rfl) (fun _ => ⟨rfl, rfl⟩) ?_
        refine ax_iinc dX12_readLaw_35 rfl (ax_inc 1) ?_
        refine ax_goto 7 dX12_readLaw_38 (by decide) ?_
        rw [nI_add j 1]
        exact ih (j + 1) _ _ (by omega) (hb1.wr rfl) ax_wr_eq (Or.inr ⟨j, by omega, rfl, hkj⟩)
      · rw [b1_f (show ¬ (r.1.2 = 0 ∧ kA ts r.1.1 = kwK (10 + j)) from fun z => hkj (by rw [← kw]; exact z.2))]
        refine ax_if_eqT 28 dX12_readLaw_21 (by decide) rfl ?_
        refine ax_aload_n dX12_readLaw_28 rfl ?_
        refine ax_getf dX12_readLaw_29 flX12_231 e145 rfl ?_
        refine ax_putf dX12_readLaw_32 flX12_231 e145 (Nat.le_of_ble_eq_true rfl) (fun _ => ⟨rfl, rfl⟩) ?_
        refine ax_iinc dX12_readLaw_35 rfl (ax_inc 1) ?_
        refine ax_goto 7 dX12_readLaw_38 (by decide) ?_
        rw [nI_add j 1]
        refine ih (j + 1) c _ (by omega) (hb1.wr rfl) ax_wr_eq ?_
        rcases hc with ⟨c1, c2⟩ | ⟨i, c1, c2, c3⟩
        · refine Or.inl ⟨c1, fun i hi => ?_⟩
          by_cases e : i = j
          · rw [e]; exact hkj
          · exact c2 i (by omega)
        · exact Or.inr ⟨i, by omega, c2, c3⟩
  refine ax_aload_n dX12_readLaw_0 rfl ?_
  refine ax_iconst dX12_readLaw_1 (v := -1) (by decide) ?_
  refine ax_putf dX12_readLaw_2 flX12_231 e145 (Nat.le_of_ble_eq_true rfl) (fun _ => ⟨rfl, rfl⟩) ?_
  refine ax_iconst dX12_readLaw_5 (v := nI 0) (by decide) ?_
  refine ax_istore_n dX12_readLaw_6 (Nat.le_of_ble_eq_true rfl) ?_
  exact loop 3 0 (-1) _ rfl (But.rf.wr rfl) ax_wr_eq (Or.inl ⟨rfl, fun i z => absurd z (Nat.not_lt_zero _)⟩)
end MLW
