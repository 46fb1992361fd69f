/-! ===== the model: expressions ===== -/
section MEX
variable {G : ax_G} {d : Nat} {h : ax_H} {Q : ax_O → ax_H → Prop}
variable {th ta si pt fa co nm rd ask nw os sw bc bm : Int32} {gg : Int64}
variable {ts : List CT} {So Va : Nat → Nat} {s : Nat × Nat} {l t : Nat}
def exP : Nat → Prop := fun j => j = 145 ∨ j = 152 ∨ j = 153
theorem PsR.k5 {h' : ax_H} (a : PsR h ts So Va) (hb : But h h' exP) : PsR h' ts So Va := a.kept (fun j z1 z2 => hb.2.2 j (by unfold exP; omega))
/-- the codes of a law that is being read, in the model's rows -/
def ExM (O A Os As : Nat → Int32) (t bs : Nat) (cs : List Nat) : Prop := bs ≤ cs.length ∧ (∀ j, j < 1100 + t + bs → O j = Os j ∧ A j = As j) ∧ ∀ j, bs ≤ j → j < cs.length → O (1100 + t + j) = nI (opc (cs.getD j 0)) ∧ A (1100 + t + j) = nI (arc (cs.getD j 0))
theorem ExM.emit {O A Os As : Nat → Int32} {bs c : Nat} {cs : List Nat} (x : ExM O A Os As t bs cs) : ExM (upd O (1100 + (t + cs.length)) (nI (opc c))) (upd A (1100 + (t + cs.length)) (nI (arc c))) Os As t bs (cs ++ [c]) := by
  obtain ⟨x1, x2, x3⟩ := x
  refine ⟨by rw [List.length_append]; omega, fun j hj => ?_, fun j h1 h2 => ?_⟩
  · rw [upd_ne (by omega), upd_ne (by omega)]
    exact x2 j hj
  · rw [List.length_append, List.length_singleton] at h2
    by_cases e : j = cs.length
    · rw [e, show 1100 + t + cs.length = 1100 + (t + cs.length) by omega, upd_eq, upd_eq, List.getD_eq_getElem?_getD, List.getElem?_concat_length]
      exact ⟨rfl, rfl⟩
    · rw [upd_ne (by omega), upd_ne (by omega), List.getD_eq_getElem?_getD, List.getElem?_append_left (by omega), ← List.getD_eq_getElem?_getD]
      exact x3 j h1 (by omega)
theorem k_emit {o a k : Nat} {O A : Nat → Int32} (hk : k < 1100) (e145 : h.2.2 145 = some (eM th ta si pt fa (nI k) nm rd ask nw os sw bc bm gg)) (e152 : h.2.2 152 = some (eI 2200 O)) (e153 : h.2.2 153 = some (eI 2200 A)) (hq : ∀ h', But h h' exP → h'.2.2 145 = some (eM th ta si pt fa (nI (k + 1)) nm rd ask nw os sw bc bm gg) → h'.2.2 152 = some (eI 2200 (upd O (1100 + k) (nI o))) → h'.2.2 153 = some (eI 2200 (upd A (1100 + k) (nI a))) → Q (.inl none) h') : X G d mX12_emit 0 (ax_in 3 [.ref 145, .int (nI o), .int (nI a)]) [] h Q := by
  refine ax_aload_n dX12_emit_0 rfl ?_
  refine ax_getf dX12_emit_1 flX12_78 e145 rfl ?_
  refine ax_sipush dX12_emit_4 (v := nI 1100) (by decide) ?_
  refine ax_aload_n dX12_emit_7 rfl ?_
  refine ax_getf dX12_emit_8 flX12_185 e145 rfl ?_
  refine ax_iadd dX12_emit_11 ?_
  rw [nI_add 1100 k]
  refine ax_iload_n dX12_emit_12 rfl ?_
  refine ax_iast dX12_emit_13 e152 (ax_ix_nI (j := 1100 + k) (by omega) (by decide)) ?_
  refine ax_aload_n dX12_emit_14 rfl ?_
  refine ax_getf dX12_emit_15 flX12_81 ((ax_wr_ne (by decide)).trans (e145)) rfl ?_
  refine ax_sipush dX12_emit_18 (v := nI 1100) (by decide) ?_
  refine ax_aload_n dX12_emit_21 rfl ?_
  refine ax_getf dX12_emit_22 flX12_185 ((ax_wr_ne (by decide)).trans (e145)) rfl ?_
  refine ax_iadd dX12_emit_25 ?_
  rw [nI_add 1100 k]
  refine ax_iload_n dX12_emit_26 rfl ?_
  refine ax_iast dX12_emit_27 ((ax_wr_ne (by decide)).trans (e153)) (ax_ix_nI (j := 1100 + k) (by omega) (by decide)) ?_
  refine ax_aload_n dX12_emit_28 rfl ?_
  refine ax_dup dX12_emit_29 rfl ?_
  refine ax_getf dX12_emit_30 flX12_185 ((ax_wr_ne (by decide)).trans ((ax_wr_ne (by decide)).trans (e145))) rfl ?_
  refine ax_iconst dX12_emit_33 (v := nI 1) (by decide) ?_
  refine ax_iadd dX12_emit_34 ?_
  refine ax_putf dX12_emit_35 flX12_185 ((ax_wr_ne (by decide)).trans ((ax_wr_ne (by decide)).trans (e145))) (Nat.le_of_ble_eq_true rfl) (fun _ => ⟨rfl, rfl⟩) ?_
  rw [nI_add k 1]
  exact ax_return dX12_emit_38 rfl (hq _ (((But.rf.wr (Or.inr (Or.inl rfl))).wr (Or.inr (Or.inr rfl))).wr (Or.inl rfl)) ax_wr_eq (by rw [ax_wr_ne (by decide), ax_wr_ne (by decide)]; exact ax_wr_eq) (by rw [ax_wr_ne (by decide)]; exact ax_wr_eq))
/-- a method of the model that reads as F does -/
def DoesM (th ta si nm ask nw os sw bc bm : Int32) (gg : Int64) (G : ax_G) (dd : Nat) (M : ax_M) (lv : List (Option Value)) (ts : List CT) (So Va : Nat → Nat) (l t : Nat) (F : ES → ES) : Prop := ∀ (e : ES) (h : ax_H) (Q : ax_O → ax_H → Prop) (O A Os As : Nat → Int32) (bs : Nat), eOK ts e → e.2.1.length ≤ e.1.1 → h.2.2 145 = some (eM th ta si (nI e.1.1) (nI e.1.2) (nI (t + e.2.1.length)) nm (nI l) ask nw os sw bc bm gg) → PsR h ts So Va → h.2.2 152 = some (eI 2200 O) → h.2.2 153 = some (eI 2200 A) → ExM O A Os As t bs e.2.1 → (∀ h' O' A', But h h' exP → h'.2.2 145 = some (eM th ta si (nI (F e).1.1) (nI (F e).1.2) (nI (t + (F e).2.1.length)) nm (nI l) ask nw os sw bc bm gg) → h'.2.2 152 = some (eI 2200 O') → h'.2.2 153 = some (eI 2200 A') → ExM O' A' Os As t bs (F e).2.1 → Q (.inl none) h') → X G dd M 0 lv [] h Q
theorem lvls : ∀ k : Nat, k < 31 → (tk_level.getD k 0 = nI 3 ↔ k = 11) ∧ (tk_level.getD k 0 = nI 2 ↔ (k = 9 ∨ k = 10)) ∧ (tk_level.getD k 0 = nI 1 ↔ (k = 7 ∨ k = 8)) ∧ (tk_level.getD k 0 = nI 0 ↔ (k = 12 ∨ k = 13)) := by decide +kernel
theorem sIf_y (h0 : s.2 = 0) {p : Prop} [Decidable p] (hp : p) (hE : tsE ts) (hs : sOKs ts s) (hk : ¬ kA ts s.1 = 0) : (sIf s p).1 = (sStep ts s).1 ∧ s.2 = (sStep ts s).2 := by
  rw [sStep_y hE hs h0 hk, h0]
  unfold sIf
  rw [if_pos hp]
  exact ⟨rfl, rfl⟩
theorem sIf_n {p : Prop} [Decidable p] (hp : ¬ p) : (sIf s p).1 = s.1 := by
  unfold sIf
  rw [if_neg hp]
theorem eEmit_e {c : Nat} {e : ES} (h : e.2.1.length < 1003) : eEmit c e = (e.1, e.2.1 ++ [c], hlN e.2.2 c) := by
  unfold eEmit
  rw [if_pos h]
theorem k_products {dep dd : Nat} {nxt : ES → ES} (ht3 : t ≤ 3) (ht : tsOK ts) (hE : tsE ts) (hT : TkQ ts So Va) (hn : FOK ts nxt) (hg : Gr ts nxt) (hN : DoesM th ta si nm ask nw os sw bc bm gg G (dd + 1) mX12_takePart (ax_in 4 [.ref 145, .int (nI dep)]) ts So Va l t nxt) : DoesM th ta si nm ask nw os sw bc bm gg G (dd + 2) mX12_products (ax_in 2 [.ref 145, .int (nI dep)]) ts So Va l t (join ts 3 nxt) := by
  intro e h Q O A Os As bs ho hle e145 hP e152 e153 hX hq
  have ht1 := ht.1
  unfold join at hq
  rw [if_neg (show ¬ 3 = 1 by omega)] at hq
  generalize hZ : joinL ts 3 nxt 1001 (nxt e) = Z at hq
  have loop : ∀ (m : Nat) (e1 : ES) (h1 : ax_H) (O1 A1 : Nat → Int32), (¬ e1.1.2 = 0 ∨ ts.length ≤ m + e1.1.1) → eOK ts e1 → e1.2.1.length ≤ e1.1.1 → joinL ts 3 nxt m e1 = Z → But h h1 exP → h1.2.2 145 = some (eM th ta si (nI e1.1.1) (nI e1.1.2) (nI (t + e1.2.1.length)) nm (nI l) ask nw os sw bc bm gg) → h1.2.2 152 = some (eI 2200 O1) → h1.2.2 153 = some (eI 2200 A1) → ExM O1 A1 Os As t bs e1.2.1 → X G (dd + 2) mX12_products 5 [some (.ref 145), some (.int (nI dep))] [] h1 Q := by
    intro m
    induction m with
    | zero =>
      intro e1 h1 O1 A1 hm ho1 hle1 hj hb1 e145 e152 e153 hX1
      have oo := ho1.1.1
      have h0 : ¬ e1.1.2 = 0 := hm.resolve_right (by omega)
      have hj' : e1 = Z := hj
      rw [← hj'] at hq
      have hPb := hP.k5 hb1
      refine ax_aload_n dX12_products_5 rfl ?_
      refine ax_bipush dX12_products_6 (v := nI 42) (by decide) ?_
      refine ax_cV dX12_products_8 mmX12_hasSign lkX12_247 miX12_hasSign msX12_hasSign (ax_recv_of e145 rfl) rfl rfl (Nat.le_of_ble_eq_true rfl) (Nat.le_of_ble_eq_true rfl) rfl rfl (k_hasSign (q := 7) (d := dd) (by omega) ht ho1.1 hT e145 hPb (fun h2 hb2 e145 => ⟨_, rfl, ?_⟩))
      rw [b1_f (fun z => h0 z.1)]
      rw [sIf_n (fun z => h0 z.1)] at e145
      refine ax_if_eqT 29 dX12_products_11 (by decide) rfl ?_
      exact ax_return dX12_products_29 rfl (hq _ O1 A1 (hb1.tr (hb2.wide (fun j z => Or.inl z))) e145 ((hb2.2.2 152 (by decide)).trans e152) ((hb2.2.2 153 (by decide)).trans e153) hX1)
    | succ m ih =>
      intro e1 h1 O1 A1 hm ho1 hle1 hj hb1 e145 e152 e153 hX1
      have oo := ho1.1.1
      have hPb := hP.k5 hb1
      have hL := (lvls _ (ht.2 _ ho1.1.1).1).1
      unfold joinL at hj
      by_cases hc : e1.1.2 = 0 ∧ kA ts e1.1.1 = 4 + 7
      · obtain ⟨h0, hkk⟩ := id hc
        have hkz : ¬ kA ts e1.1.1 = 0 := by omega
        rw [if_pos ⟨h0, hL.mpr hkk⟩, hkk] at hj
        have gr := hg (sStep ts e1.1, e1.2) ⟨sStep_ok ho1.1, ho1.2⟩
        have st1 := sStep_y hE ho1.1 h0 hkz
        have a1 : (sStep ts e1.1).1 = e1.1.1 + 1 := by rw [st1]
        have gr1 := gr.1
        have gr2 := gr.2.1
        dsimp only at gr1 gr2
        rw [a1] at gr1 gr2
        have o3 := hn (sStep ts e1.1, e1.2) ⟨sStep_ok ho1.1, ho1.2⟩
        have o31 := o3.1.1
        refine ax_aload_n dX12_products_5 rfl ?_
        refine ax_bipush dX12_products_6 (v := nI 42) (by decide) ?_
        refine ax_cV dX12_products_8 mmX12_hasSign lkX12_247 miX12_hasSign msX12_hasSign (ax_recv_of e145 rfl) rfl rfl (Nat.le_of_ble_eq_true rfl) (Nat.le_of_ble_eq_true rfl) rfl rfl (k_hasSign (q := 7) (d := dd) (by omega) ht ho1.1 hT e145 hPb (fun h2 hb2 e145 => ⟨_, rfl, ?_⟩))
        rw [b1_t hc]
        rw [(sIf_y h0 hc hE ho1.1 hkz).1, (sIf_y h0 hc hE ho1.1 hkz).2] at e145
        have e152 := (hb2.2.2 152 (by decide)).trans e152
        have e153 := (hb2.2.2 153 (by decide)).trans e153
        have hb2 : But h h2 exP := hb1.tr (hb2.wide (fun j z => Or.inl z))
        refine ax_if_eqF 29 dX12_products_11 (by decide) (by decide) ?_
        refine ax_aload_n dX12_products_14 rfl ?_
        refine ax_iload_n dX12_products_15 rfl ?_
        refine ax_cV dX12_products_16 mmX12_takePart lkX12_253 miX12_takePart msX12_takePart (ax_recv_of e145 rfl) rfl rfl (Nat.le_of_ble_eq_true rfl) (Nat.le_of_ble_eq_true rfl) rfl rfl (hN (sStep ts e1.1, e1.2) h2 _ O1 A1 Os As bs ⟨sStep_ok ho1.1, ho1.2⟩ (by dsimp only; omega) e145 (hP.k5 hb2) e152 e153 hX1 (fun h3 O3 A3 hb3 e145 e152 e153 hX3 => ⟨_, rfl, ?_⟩))
        generalize hG : nxt (sStep ts e1.1, e1.2) = e3 at hj o3 o31 gr1 gr2 e145 hX3
        have hb3 := hb2.tr hb3
        refine ax_aload_n dX12_products_19 rfl ?_
        refine ax_bipush dX12_products_20 (v := nI 6) (by decide) ?_
        refine ax_iconst dX12_products_22 (v := nI 0) (by decide) ?_
        refine ax_cV dX12_products_23 mmX12_emit lkX12_237 miX12_emit msX12_emit (ax_recv_of e145 rfl) rfl rfl (Nat.le_of_ble_eq_true rfl) (Nat.le_of_ble_eq_true rfl) rfl rfl (k_emit (o := 6) (a := 0) (k := t + e3.2.1.length) (d := dd + 1) (by omega) e145 e152 e153 (fun h4 hb4 e145 e152 e153 => ⟨_, rfl, ?_⟩))
        refine ax_goto 5 dX12_products_26 (by decide) ?_
        rw [eEmit_e (by omega)] at hj
        refine ih (e3.1, e3.2.1 ++ [15], hlN e3.2.2 15) h4 _ _ ?_ ?_ ?_ hj (hb3.tr hb4) ?_ e152 e153 (hX3.emit (c := 15))
        · dsimp only; omega
        · refine ⟨o3.1, ?_⟩
          dsimp only
          rw [List.length_append, List.length_singleton]; omega
        · dsimp only
          rw [List.length_append, List.length_singleton]; omega
        · rw [e145]
          dsimp only
          rw [List.length_append, List.length_singleton, Nat.add_assoc]
      · rw [if_neg (fun z => hc ⟨z.1, hL.mp z.2⟩)] at hj
        rw [← hj] at hq
        refine ax_aload_n dX12_products_5 rfl ?_
        refine ax_bipush dX12_products_6 (v := nI 42) (by decide) ?_
        refine ax_cV dX12_products_8 mmX12_hasSign lkX12_247 miX12_hasSign msX12_hasSign (ax_recv_of e145 rfl) rfl rfl (Nat.le_of_ble_eq_true rfl) (Nat.le_of_ble_eq_true rfl) rfl rfl (k_hasSign (q := 7) (d := dd) (by omega) ht ho1.1 hT e145 hPb (fun h2 hb2 e145 => ⟨_, rfl, ?_⟩))
        rw [b1_f hc]
        rw [sIf_n hc] at e145
        refine ax_if_eqT 29 dX12_products_11 (by decide) rfl ?_
        exact ax_return dX12_products_29 rfl (hq _ O1 A1 (hb1.tr (hb2.wide (fun j z => Or.inl z))) e145 ((hb2.2.2 152 (by decide)).trans e152) ((hb2.2.2 153 (by decide)).trans e153) hX1)
  have gr0 := hg e ho
  refine ax_aload_n dX12_products_0 rfl ?_
  refine ax_iload_n dX12_products_1 rfl ?_
  refine ax_cV dX12_products_2 mmX12_takePart lkX12_253 miX12_takePart msX12_takePart (ax_recv_of e145 rfl) rfl rfl (Nat.le_of_ble_eq_true rfl) (Nat.le_of_ble_eq_true rfl) rfl rfl (hN e h _ O A Os As bs ho hle e145 hP e152 e153 hX (fun h1 O1 A1 hb1 e145 e152 e153 hX1 => ⟨_, rfl, ?_⟩))
  exact loop 1001 (nxt e) h1 O1 A1 (Or.inr (by omega)) (hn e ho) (by omega) hZ hb1 e145 e152 e153 hX1
theorem k_sums {dep dd : Nat} {nxt : ES → ES} (ht3 : t ≤ 3) (ht : tsOK ts) (hE : tsE ts) (hT : TkQ ts So Va) (hn : FOK ts nxt) (hg : Gr ts nxt) (hN : DoesM th ta si nm ask nw os sw bc bm gg G (dd + 1) mX12_products (ax_in 2 [.ref 145, .int (nI dep)]) ts So Va l t nxt) : DoesM th ta si nm ask nw os sw bc bm gg G (dd + 2) mX12_sums (ax_in 3 [.ref 145, .int (nI dep)]) ts So Va l t (join ts 2 nxt) := by
  intro e h Q O A Os As bs ho hle e145 hP e152 e153 hX hq
  have ht1 := ht.1
  unfold join at hq
  rw [if_neg (show ¬ 2 = 1 by omega)] at hq
  generalize hZ : joinL ts 2 nxt 1001 (nxt e) = Z at hq
  have loop : ∀ (m : Nat) (e1 : ES) (h1 : ax_H) (O1 A1 : Nat → Int32) (o2 : Option Value), (¬ e1.1.2 = 0 ∨ ts.length ≤ m + e1.1.1) → eOK ts e1 → e1.2.1.length ≤ e1.1.1 → joinL ts 2 nxt m e1 = Z → But h h1 exP → h1.2.2 145 = some (eM th ta si (nI e1.1.1) (nI e1.1.2) (nI (t + e1.2.1.length)) nm (nI l) ask nw os sw bc bm gg) → h1.2.2 152 = some (eI 2200 O1) → h1.2.2 153 = some (eI 2200 A1) → ExM O1 A1 Os As t bs e1.2.1 → X G (dd + 2) mX12_sums 5 [some (.ref 145), some (.int (nI dep)), o2] [] h1 Q := by
    intro m
    induction m with
    | zero =>
      intro e1 h1 O1 A1 o2 hm ho1 hle1 hj hb1 e145 e152 e153 hX1
      have oo := ho1.1.1
      have h0 : ¬ e1.1.2 = 0 := hm.resolve_right (by omega)
      have hj' : e1 = Z := hj
      rw [← hj'] at hq
      have hPb := hP.k5 hb1
      refine ax_aload_n dX12_sums_5 rfl ?_
      refine ax_bipush dX12_sums_6 (v := nI 43) (by decide) ?_
      refine ax_cV dX12_sums_8 mmX12_isSign lkX12_159 miX12_isSign msX12_isSign (ax_recv_of e145 rfl) rfl rfl (Nat.le_of_ble_eq_true rfl) (Nat.le_of_ble_eq_true rfl) rfl rfl (k_isSign (q := 5) (d := dd + 1) (by omega) ht ho1.1 hT e145 hPb ⟨_, rfl, ?_⟩)
      rw [b1_f (fun z => h0 z.1)]
      refine ax_if_neF 23 dX12_sums_11 (by decide) (by decide) ?_
      refine ax_aload_n dX12_sums_14 rfl ?_
      refine ax_bipush dX12_sums_15 (v := nI 45) (by decide) ?_
      refine ax_cV dX12_sums_17 mmX12_isSign lkX12_159 miX12_isSign msX12_isSign (ax_recv_of e145 rfl) rfl rfl (Nat.le_of_ble_eq_true rfl) (Nat.le_of_ble_eq_true rfl) rfl rfl (k_isSign (q := 6) (d := dd + 1) (by omega) ht ho1.1 hT e145 hPb ⟨_, rfl, ?_⟩)
      rw [b1_f (fun z => h0 z.1)]
      refine ax_if_eqT 62 dX12_sums_20 (by decide) rfl ?_
      exact ax_return dX12_sums_62 rfl (hq _ O1 A1 hb1 e145 e152 e153 hX1)
    | succ m ih =>
      intro e1 h1 O1 A1 o2 hm ho1 hle1 hj hb1 e145 e152 e153 hX1
      have oo := ho1.1.1
      have hPb := hP.k5 hb1
      have hL := (lvls _ (ht.2 _ ho1.1.1).1).2.1
      unfold joinL at hj
      by_cases hcA : e1.1.2 = 0 ∧ kA ts e1.1.1 = 4 + 5
      · obtain ⟨h0, hkk⟩ := id hcA
        have hkz : ¬ kA ts e1.1.1 = 0 := by rw [hkk]; decide
        rw [if_pos ⟨h0, hL.mpr (Or.inl hkk)⟩, hkk, show stp (4 + 5) = 13 from by decide] at hj
        have gr := hg (sStep ts e1.1, e1.2) ⟨sStep_ok ho1.1, ho1.2⟩
        have st1 := sStep_y hE ho1.1 h0 hkz
        have a1 : (sStep ts e1.1).1 = e1.1.1 + 1 := by rw [st1]
        have gr1 := gr.1
        have gr2 := gr.2.1
        dsimp only at gr1 gr2
        rw [a1] at gr1 gr2
        have o3 := hn (sStep ts e1.1, e1.2) ⟨sStep_ok ho1.1, ho1.2⟩
        have o31 := o3.1.1
        have nx : ∀ (h2 : ax_H), But h h2 exP → h2.2.2 145 = some (eM th ta si (nI (sStep ts e1.1).1) (nI (sStep ts e1.1).2) (nI (t + e1.2.1.length)) nm (nI l) ask nw os sw bc bm gg) → h2.2.2 152 = some (eI 2200 O1) → h2.2.2 153 = some (eI 2200 A1) → X G (dd + 2) mX12_sums 40 [some (.ref 145), some (.int (nI dep)), some (.int 1)] [] h2 Q := by
          intro h2 hb2 e145 e152 e153
          refine ax_aload_n dX12_sums_40 rfl ?_
          refine ax_iload_n dX12_sums_41 rfl ?_
          refine ax_cV dX12_sums_42 mmX12_products lkX12_250 miX12_products msX12_products (ax_recv_of e145 rfl) rfl rfl (Nat.le_of_ble_eq_true rfl) (Nat.le_of_ble_eq_true rfl) rfl rfl (hN (sStep ts e1.1, e1.2) h2 _ O1 A1 Os As bs ⟨sStep_ok ho1.1, ho1.2⟩ (by dsimp only; omega) e145 (hP.k5 hb2) e152 e153 hX1 (fun h3 O3 A3 hb3 e145 e152 e153 hX3 => ⟨_, rfl, ?_⟩))
          generalize hG : nxt (sStep ts e1.1, e1.2) = e3 at hj o3 o31 gr1 gr2 e145 hX3
          have hb3 := hb2.tr hb3
          refine ax_aload_n dX12_sums_45 rfl ?_
          refine ax_iload_n dX12_sums_46 rfl ?_
          refine ax_if_eqF 54 dX12_sums_47 (by decide) (by decide) ?_
          refine ax_iconst dX12_sums_50 (v := nI 4) (by decide) ?_
          refine ax_goto 55 dX12_sums_51 (by decide) ?_
          refine ax_iconst dX12_sums_55 (v := nI 0) (by decide) ?_
          refine ax_cV dX12_sums_56 mmX12_emit lkX12_237 miX12_emit msX12_emit (ax_recv_of e145 rfl) rfl rfl (Nat.le_of_ble_eq_true rfl) (Nat.le_of_ble_eq_true rfl) rfl rfl (k_emit (o := 4) (a := 0) (k := t + e3.2.1.length) (d := dd + 1) (by omega) e145 e152 e153 (fun h4 hb4 e145 e152 e153 => ⟨_, rfl, ?_⟩))
          rw [eEmit_e (by omega)] at hj
          refine ax_goto 5 dX12_sums_59 (by decide) ?_
          refine ih (e3.1, e3.2.1 ++ [13], hlN e3.2.2 13) h4 _ _ _ ?_ ?_ ?_ hj (hb3.tr hb4) ?_ e152 e153 (hX3.emit (c := 13))
          · dsimp only; omega
          · refine ⟨o3.1, ?_⟩
            dsimp only
            rw [List.length_append, List.length_singleton]; omega
          · dsimp only
            rw [List.length_append, List.length_singleton]; omega
          · rw [e145]
            dsimp only
            rw [List.length_append, List.length_singleton, Nat.add_assoc]
        refine ax_aload_n dX12_sums_5 rfl ?_
        refine ax_bipush dX12_sums_6 (v := nI 43) (by decide) ?_
        refine ax_cV dX12_sums_8 mmX12_isSign lkX12_159 miX12_isSign msX12_isSign (ax_recv_of e145 rfl) rfl rfl (Nat.le_of_ble_eq_true rfl) (Nat.le_of_ble_eq_true rfl) rfl rfl (k_isSign (q := 5) (d := dd + 1) (by omega) ht ho1.1 hT e145 hPb ⟨_, rfl, ?_⟩)
        rw [b1_t hcA]
        refine ax_if_neT 23 dX12_sums_11 (by decide) (by decide) ?_
        refine ax_aload_n dX12_sums_23 rfl ?_
        refine ax_bipush dX12_sums_24 (v := nI 43) (by decide) ?_
        refine ax_cV dX12_sums_26 mmX12_isSign lkX12_159 miX12_isSign msX12_isSign (ax_recv_of e145 rfl) rfl rfl (Nat.le_of_ble_eq_true rfl) (Nat.le_of_ble_eq_true rfl) rfl rfl (k_isSign (q := 5) (d := dd + 1) (by omega) ht ho1.1 hT e145 hPb ⟨_, rfl, ?_⟩)
        rw [b1_t hcA]
        refine ax_istore_n dX12_sums_29 (Nat.le_of_ble_eq_true rfl) ?_
        refine ax_aload_n dX12_sums_30 rfl ?_
        refine ax_dup dX12_sums_31 rfl ?_
        refine ax_getf dX12_sums_32 flX12_153 e145 rfl ?_
        refine ax_iconst dX12_sums_35 (v := nI 1) (by decide) ?_
        refine ax_iadd dX12_sums_36 ?_
        refine ax_putf dX12_sums_37 flX12_153 e145 (Nat.le_of_ble_eq_true rfl) (fun _ => ⟨rfl, rfl⟩) ?_
        rw [nI_add e1.1.1 1, ← a1, show nI e1.1.2 = nI (sStep ts e1.1).2 from by rw [st1, h0]]
        exact nx _ (hb1.wr (Or.inl rfl)) ax_wr_eq ((ax_wr_ne (by decide)).trans e152) ((ax_wr_ne (by decide)).trans e153)
      · by_cases hcB : e1.1.2 = 0 ∧ kA ts e1.1.1 = 4 + 6
        · obtain ⟨h0, hkk⟩ := id hcB
          have hkz : ¬ kA ts e1.1.1 = 0 := by rw [hkk]; decide
          rw [if_pos ⟨h0, hL.mpr (Or.inr hkk)⟩, hkk, show stp (4 + 6) = 14 from by decide] at hj
          have gr := hg (sStep ts e1.1, e1.2) ⟨sStep_ok ho1.1, ho1.2⟩
          have st1 := sStep_y hE ho1.1 h0 hkz
          have a1 : (sStep ts e1.1).1 = e1.1.1 + 1 := by rw [st1]
          have gr1 := gr.1
          have gr2 := gr.2.1
          dsimp only at gr1 gr2
          rw [a1] at gr1 gr2
          have o3 := hn (sStep ts e1.1, e1.2) ⟨sStep_ok ho1.1, ho1.2⟩
          have o31 := o3.1.1
          have nx : ∀ (h2 : ax_H), But h h2 exP → h2.2.2 145 = some (eM th ta si (nI (sStep ts e1.1).1) (nI (sStep ts e1.1).2) (nI (t + e1.2.1.length)) nm (nI l) ask nw os sw bc bm gg) → h2.2.2 152 = some (eI 2200 O1) → h2.2.2 153 = some (eI 2200 A1) → X G (dd + 2) mX12_sums 40 [some (.ref 145), some (.int (nI dep)), some (.int 0)] [] h2 Q := by
            intro h2 hb2 e145 e152 e153
            refine ax_aload_n dX12_sums_40 rfl ?_
            refine ax_iload_n dX12_sums_41 rfl ?_
            refine ax_cV dX12_sums_42 mmX12_products lkX12_250 miX12_products msX12_products (ax_recv_of e145 rfl) rfl rfl (Nat.le_of_ble_eq_true rfl) (Nat.le_of_ble_eq_true rfl) rfl rfl (hN (sStep ts e1.1, e1.2) h2 _ O1 A1 Os As bs ⟨sStep_ok ho1.1, ho1.2⟩ (by dsimp only; omega) e145 (hP.k5 hb2) e152 e153 hX1 (fun h3 O3 A3 hb3 e145 e152 e153 hX3 => ⟨_, rfl, ?_⟩))
            generalize hG : nxt (sStep ts e1.1, e1.2) = e3 at hj o3 o31 gr1 gr2 e145 hX3
            have hb3 := hb2.tr hb3
            refine ax_aload_n dX12_sums_45 rfl ?_
            refine ax_iload_n dX12_sums_46 rfl ?_
            refine ax_if_eqT 54 dX12_sums_47 (by decide) rfl ?_
            refine ax_iconst dX12_sums_54 (v := nI 5) (by decide) ?_
            refine ax_iconst dX12_sums_55 (v := nI 0) (by decide) ?_
            refine ax_cV dX12_sums_56 mmX12_emit lkX12_237 miX12_emit msX12_emit (ax_recv_of e145 rfl) rfl rfl (Nat.le_of_ble_eq_true rfl) (Nat.le_of_ble_eq_true rfl) rfl rfl (k_emit (o := 5) (a := 0) (k := t + e3.2.1.length) (d := dd + 1) (by omega) e145 e152 e153 (fun h4 hb4 e145 e152 e153 => ⟨_, rfl, ?_⟩))
            rw [eEmit_e (by omega)] at hj
            refine ax_goto 5 dX12_sums_59 (by decide) ?_
            refine ih (e3.1, e3.2.1 ++ [14], hlN e3.2.2 14) h4 _ _ _ ?_ ?_ ?_ hj (hb3.tr hb4) ?_ e152 e153 (hX3.emit (c := 14))
            · dsimp only; omega
            · refine ⟨o3.1, ?_⟩
              dsimp only
              rw [List.length_append, List.length_singleton]; omega
            · dsimp only
              rw [List.length_append, List.length_singleton]; omega
            · rw [e145]
              dsimp only
              rw [List.length_append, List.length_singleton, Nat.add_assoc]
          refine ax_aload_n dX12_sums_5 rfl ?_
          refine ax_bipush dX12_sums_6 (v := nI 43) (by decide) ?_
          refine ax_cV dX12_sums_8 mmX12_isSign lkX12_159 miX12_isSign msX12_isSign (ax_recv_of e145 rfl) rfl rfl (Nat.le_of_ble_eq_true rfl) (Nat.le_of_ble_eq_true rfl) rfl rfl (k_isSign (q := 5) (d := dd + 1) (by omega) ht ho1.1 hT e145 hPb ⟨_, rfl, ?_⟩)
          rw [b1_f hcA]
          refine ax_if_neF 23 dX12_sums_11 (by decide) (by decide) ?_
          refine ax_aload_n dX12_sums_14 rfl ?_
          refine ax_bipush dX12_sums_15 (v := nI 45) (by decide) ?_
          refine ax_cV dX12_sums_17 mmX12_isSign lkX12_159 miX12_isSign msX12_isSign (ax_recv_of e145 rfl) rfl rfl (Nat.le_of_ble_eq_true rfl) (Nat.le_of_ble_eq_true rfl) rfl rfl (k_isSign (q := 6) (d := dd + 1) (by omega) ht ho1.1 hT e145 hPb ⟨_, rfl, ?_⟩)
          rw [b1_t hcB]
          refine ax_if_eqF 62 dX12_sums_20 (by decide) (by decide) ?_
          refine ax_aload_n dX12_sums_23 rfl ?_
          refine ax_bipush dX12_sums_24 (v := nI 43) (by decide) ?_
          refine ax_cV dX12_sums_26 mmX12_isSign lkX12_159 miX12_isSign msX12_isSign (ax_recv_of e145 rfl) rfl rfl (Nat.le_of_ble_eq_true rfl) (Nat.le_of_ble_eq_true rfl) rfl rfl (k_isSign (q := 5) (d := dd + 1) (by omega) ht ho1.1 hT e145 hPb ⟨_, rfl, ?_⟩)
          rw [b1_f hcA]
          refine ax_istore_n dX12_sums_29 (Nat.le_of_ble_eq_true rfl) ?_
          refine ax_aload_n dX12_sums_30 rfl ?_
          refine ax_dup dX12_sums_31 rfl ?_
          refine ax_getf dX12_sums_32 flX12_153 e145 rfl ?_
          refine ax_iconst dX12_sums_35 (v := nI 1) (by decide) ?_
          refine ax_iadd dX12_sums_36 ?_
          refine ax_putf dX12_sums_37 flX12_153 e145 (Nat.le_of_ble_eq_true rfl) (fun _ => ⟨rfl, rfl⟩) ?_
          rw [nI_add e1.1.1 1, ← a1, show nI e1.1.2 = nI (sStep ts e1.1).2 from by rw [st1, h0]]
          exact nx _ (hb1.wr (Or.inl rfl)) ax_wr_eq ((ax_wr_ne (by decide)).trans e152) ((ax_wr_ne (by decide)).trans e153)
        · rw [if_neg (fun z => (hL.mp z.2).elim (fun y => hcA ⟨z.1, y⟩) (fun y => hcB ⟨z.1, y⟩))] at hj
          rw [← hj] at hq
          refine ax_aload_n dX12_sums_5 rfl ?_
          refine ax_bipush dX12_sums_6 (v := nI 43) (by decide) ?_
          refine ax_cV dX12_sums_8 mmX12_isSign lkX12_159 miX12_isSign msX12_isSign (ax_recv_of e145 rfl) rfl rfl (Nat.le_of_ble_eq_true rfl) (Nat.le_of_ble_eq_true rfl) rfl rfl (k_isSign (q := 5) (d := dd + 1) (by omega) ht ho1.1 hT e145 hPb ⟨_, rfl, ?_⟩)
          rw [b1_f (hcA)]
          refine ax_if_neF 23 dX12_sums_11 (by decide) (by decide) ?_
          refine ax_aload_n dX12_sums_14 rfl ?_
          refine ax_bipush dX12_sums_15 (v := nI 45) (by decide) ?_
          refine ax_cV dX12_sums_17 mmX12_isSign lkX12_159 miX12_isSign msX12_isSign (ax_recv_of e145 rfl) rfl rfl (Nat.le_of_ble_eq_true rfl) (Nat.le_of_ble_eq_true rfl) rfl rfl (k_isSign (q := 6) (d := dd + 1) (by omega) ht ho1.1 hT e145 hPb ⟨_, rfl, ?_⟩)
          rw [b1_f (hcB)]
          refine ax_if_eqT 62 dX12_sums_20 (by decide) rfl ?_
          exact ax_return dX12_sums_62 rfl (hq _ O1 A1 hb1 e145 e152 e153 hX1)
  have gr0 := hg e ho
  refine ax_aload_n dX12_sums_0 rfl ?_
  refine ax_iload_n dX12_sums_1 rfl ?_
  refine ax_cV dX12_sums_2 mmX12_products lkX12_250 miX12_products msX12_products (ax_recv_of e145 rfl) rfl rfl (Nat.le_of_ble_eq_true rfl) (Nat.le_of_ble_eq_true rfl) rfl rfl (hN e h _ O A Os As bs ho hle e145 hP e152 e153 hX (fun h1 O1 A1 hb1 e145 e152 e153 hX1 => ⟨_, rfl, ?_⟩))
  exact loop 1001 (nxt e) h1 O1 A1 none (Or.inr (by omega)) (hn e ho) (by omega) hZ hb1 e145 e152 e153 hX1
theorem k_test {dep dd : Nat} {nxt : ES → ES} (ht3 : t ≤ 3) (ht : tsOK ts) (hE : tsE ts) (hT : TkQ ts So Va) (hn : FOK ts nxt) (hg : Gr ts nxt) (hN : DoesM th ta si nm ask nw os sw bc bm gg G (dd + 1) mX12_sums (ax_in 3 [.ref 145, .int (nI dep)]) ts So Va l t nxt) : DoesM th ta si nm ask nw os sw bc bm gg G (dd + 2) mX12_test (ax_in 3 [.ref 145, .int (nI dep)]) ts So Va l t (join ts 1 nxt) := by
  intro e h Q O A Os As bs ho hle e145 hP e152 e153 hX hq
  have ht1 := ht.1
  unfold join at hq
  rw [if_pos (show 1 = 1 from rfl)] at hq
  have gr0 := hg e ho
  have ho1 := hn e ho
  refine ax_aload_n dX12_test_0 rfl ?_
  refine ax_iload_n dX12_test_1 rfl ?_
  refine ax_cV dX12_test_2 mmX12_sums lkX12_244 miX12_sums msX12_sums (ax_recv_of e145 rfl) rfl rfl (Nat.le_of_ble_eq_true rfl) (Nat.le_of_ble_eq_true rfl) rfl rfl (hN e h _ O A Os As bs ho hle e145 hP e152 e153 hX (fun h1 O1 A1 hb1 e145 e152 e153 hX1 => ⟨_, rfl, ?_⟩))
  generalize hZ : joinL ts 1 nxt 1 (nxt e) = Z at hq
  generalize nxt e = e1 at hZ gr0 ho1 e145 hX1
  have hle1 : e1.2.1.length ≤ e1.1.1 := by omega
  have hj := hZ
  have oo := ho1.1.1
  have hPb := hP.k5 hb1
  have hL := (lvls _ (ht.2 _ ho1.1.1).1).2.2.1
  unfold joinL at hj
  by_cases hcA : e1.1.2 = 0 ∧ kA ts e1.1.1 = 4 + 3
  · obtain ⟨h0, hkk⟩ := id hcA
    have hkz : ¬ kA ts e1.1.1 = 0 := by rw [hkk]; decide
    rw [if_pos ⟨h0, hL.mpr (Or.inl hkk)⟩, hkk, show stp (4 + 3) = 11 from by decide] at hj
    unfold joinL at hj
    have gr := hg (sStep ts e1.1, e1.2) ⟨sStep_ok ho1.1, ho1.2⟩
    have st1 := sStep_y hE ho1.1 h0 hkz
    have a1 : (sStep ts e1.1).1 = e1.1.1 + 1 := by rw [st1]
    have gr1 := gr.1
    have gr2 := gr.2.1
    dsimp only at gr1 gr2
    rw [a1] at gr1 gr2
    have o3 := hn (sStep ts e1.1, e1.2) ⟨sStep_ok ho1.1, ho1.2⟩
    have o31 := o3.1.1
    have nx : ∀ (h2 : ax_H), But h h2 exP → h2.2.2 145 = some (eM th ta si (nI (sStep ts e1.1).1) (nI (sStep ts e1.1).2) (nI (t + e1.2.1.length)) nm (nI l) ask nw os sw bc bm gg) → h2.2.2 152 = some (eI 2200 O1) → h2.2.2 153 = some (eI 2200 A1) → X G (dd + 2) mX12_test 30 [some (.ref 145), some (.int (nI dep)), some (.int 1)] [] h2 Q := by
      intro h2 hb2 e145 e152 e153
      refine ax_aload_n dX12_test_30 rfl ?_
      refine ax_iload_n dX12_test_31 rfl ?_
      refine ax_cV dX12_test_32 mmX12_sums lkX12_244 miX12_sums msX12_sums (ax_recv_of e145 rfl) rfl rfl (Nat.le_of_ble_eq_true rfl) (Nat.le_of_ble_eq_true rfl) rfl rfl (hN (sStep ts e1.1, e1.2) h2 _ O1 A1 Os As bs ⟨sStep_ok ho1.1, ho1.2⟩ (by dsimp only; omega) e145 (hP.k5 hb2) e152 e153 hX1 (fun h3 O3 A3 hb3 e145 e152 e153 hX3 => ⟨_, rfl, ?_⟩))
      generalize hG : nxt (sStep ts e1.1, e1.2) = e3 at hj o3 o31 gr1 gr2 e145 hX3
      have hb3 := hb2.tr hb3
      refine ax_aload_n dX12_test_35 rfl ?_
      refine ax_iload_n dX12_test_36 rfl ?_
      refine ax_if_eqF 45 dX12_test_37 (by decide) (by decide) ?_
      refine ax_bipush dX12_test_40 (v := nI 7) (by decide) ?_
      refine ax_goto 47 dX12_test_42 (by decide) ?_
      refine ax_iconst dX12_test_47 (v := nI 0) (by decide) ?_
      refine ax_cV dX12_test_48 mmX12_emit lkX12_237 miX12_emit msX12_emit (ax_recv_of e145 rfl) rfl rfl (Nat.le_of_ble_eq_true rfl) (Nat.le_of_ble_eq_true rfl) rfl rfl (k_emit (o := 7) (a := 0) (k := t + e3.2.1.length) (d := dd + 1) (by omega) e145 e152 e153 (fun h4 hb4 e145 e152 e153 => ⟨_, rfl, ?_⟩))
      rw [eEmit_e (by omega)] at hj
      rw [← hj] at hq
      refine ax_return dX12_test_51 rfl (hq h4 _ _ (hb3.tr hb4) ?_ e152 e153 (hX3.emit (c := 11)))
      rw [e145]
      dsimp only
      rw [List.length_append, List.length_singleton, Nat.add_assoc]
    refine ax_aload_n dX12_test_5 rfl ?_
    refine ax_bipush dX12_test_6 (v := nI 60) (by decide) ?_
    refine ax_cV dX12_test_8 mmX12_isSign lkX12_159 miX12_isSign msX12_isSign (ax_recv_of e145 rfl) rfl rfl (Nat.le_of_ble_eq_true rfl) (Nat.le_of_ble_eq_true rfl) rfl rfl (k_isSign (q := 3) (d := dd + 1) (by omega) ht ho1.1 hT e145 hPb ⟨_, rfl, ?_⟩)
    rw [b1_t hcA]
    refine ax_istore_n dX12_test_11 (Nat.le_of_ble_eq_true rfl) ?_
    refine ax_aload_n dX12_test_12 rfl ?_
    refine ax_bipush dX12_test_13 (v := nI 60) (by decide) ?_
    refine ax_cV dX12_test_15 mmX12_hasSign lkX12_247 miX12_hasSign msX12_hasSign (ax_recv_of e145 rfl) rfl rfl (Nat.le_of_ble_eq_true rfl) (Nat.le_of_ble_eq_true rfl) rfl rfl (k_hasSign (q := 3) (d := dd) (by omega) ht ho1.1 hT e145 hPb (fun h2 hb2 e145 => ⟨_, rfl, ?_⟩))
    rw [b1_t hcA]
    rw [(sIf_y h0 hcA hE ho1.1 hkz).1, (sIf_y h0 hcA hE ho1.1 hkz).2] at e145
    refine ax_if_neT 30 dX12_test_18 (by decide) (by decide) ?_
    exact nx h2 (hb1.tr (hb2.wide (fun j z => Or.inl z))) e145 ((hb2.2.2 152 (by decide)).trans e152) ((hb2.2.2 153 (by decide)).trans e153)
  · by_cases hcB : e1.1.2 = 0 ∧ kA ts e1.1.1 = 4 + 4
    · obtain ⟨h0, hkk⟩ := id hcB
      have hkz : ¬ kA ts e1.1.1 = 0 := by rw [hkk]; decide
      rw [if_pos ⟨h0, hL.mpr (Or.inr hkk)⟩, hkk, show stp (4 + 4) = 12 from by decide] at hj
      unfold joinL at hj
      have gr := hg (sStep ts e1.1, e1.2) ⟨sStep_ok ho1.1, ho1.2⟩
      have st1 := sStep_y hE ho1.1 h0 hkz
      have a1 : (sStep ts e1.1).1 = e1.1.1 + 1 := by rw [st1]
      have gr1 := gr.1
      have gr2 := gr.2.1
      dsimp only at gr1 gr2
      rw [a1] at gr1 gr2
      have o3 := hn (sStep ts e1.1, e1.2) ⟨sStep_ok ho1.1, ho1.2⟩
      have o31 := o3.1.1
      have nx : ∀ (h2 : ax_H), But h h2 exP → h2.2.2 145 = some (eM th ta si (nI (sStep ts e1.1).1) (nI (sStep ts e1.1).2) (nI (t + e1.2.1.length)) nm (nI l) ask nw os sw bc bm gg) → h2.2.2 152 = some (eI 2200 O1) → h2.2.2 153 = some (eI 2200 A1) → X G (dd + 2) mX12_test 30 [some (.ref 145), some (.int (nI dep)), some (.int 0)] [] h2 Q := by
        intro h2 hb2 e145 e152 e153
        refine ax_aload_n dX12_test_30 rfl ?_
        refine ax_iload_n dX12_test_31 rfl ?_
        refine ax_cV dX12_test_32 mmX12_sums lkX12_244 miX12_sums msX12_sums (ax_recv_of e145 rfl) rfl rfl (Nat.le_of_ble_eq_true rfl) (Nat.le_of_ble_eq_true rfl) rfl rfl (hN (sStep ts e1.1, e1.2) h2 _ O1 A1 Os As bs ⟨sStep_ok ho1.1, ho1.2⟩ (by dsimp only; omega) e145 (hP.k5 hb2) e152 e153 hX1 (fun h3 O3 A3 hb3 e145 e152 e153 hX3 => ⟨_, rfl, ?_⟩))
        generalize hG : nxt (sStep ts e1.1, e1.2) = e3 at hj o3 o31 gr1 gr2 e145 hX3
        have hb3 := hb2.tr hb3
        refine ax_aload_n dX12_test_35 rfl ?_
        refine ax_iload_n dX12_test_36 rfl ?_
        refine ax_if_eqT 45 dX12_test_37 (by decide) rfl ?_
        refine ax_bipush dX12_test_45 (v := nI 8) (by decide) ?_
        refine ax_iconst dX12_test_47 (v := nI 0) (by decide) ?_
        refine ax_cV dX12_test_48 mmX12_emit lkX12_237 miX12_emit msX12_emit (ax_recv_of e145 rfl) rfl rfl (Nat.le_of_ble_eq_true rfl) (Nat.le_of_ble_eq_true rfl) rfl rfl (k_emit (o := 8) (a := 0) (k := t + e3.2.1.length) (d := dd + 1) (by omega) e145 e152 e153 (fun h4 hb4 e145 e152 e153 => ⟨_, rfl, ?_⟩))
        rw [eEmit_e (by omega)] at hj
        rw [← hj] at hq
        refine ax_return dX12_test_51 rfl (hq h4 _ _ (hb3.tr hb4) ?_ e152 e153 (hX3.emit (c := 12)))
        rw [e145]
        dsimp only
        rw [List.length_append, List.length_singleton, Nat.add_assoc]
      refine ax_aload_n dX12_test_5 rfl ?_
      refine ax_bipush dX12_test_6 (v := nI 60) (by decide) ?_
      refine ax_cV dX12_test_8 mmX12_isSign lkX12_159 miX12_isSign msX12_isSign (ax_recv_of e145 rfl) rfl rfl (Nat.le_of_ble_eq_true rfl) (Nat.le_of_ble_eq_true rfl) rfl rfl (k_isSign (q := 3) (d := dd + 1) (by omega) ht ho1.1 hT e145 hPb ⟨_, rfl, ?_⟩)
      rw [b1_f hcA]
      refine ax_istore_n dX12_test_11 (Nat.le_of_ble_eq_true rfl) ?_
      refine ax_aload_n dX12_test_12 rfl ?_
      refine ax_bipush dX12_test_13 (v := nI 60) (by decide) ?_
      refine ax_cV dX12_test_15 mmX12_hasSign lkX12_247 miX12_hasSign msX12_hasSign (ax_recv_of e145 rfl) rfl rfl (Nat.le_of_ble_eq_true rfl) (Nat.le_of_ble_eq_true rfl) rfl rfl (k_hasSign (q := 3) (d := dd) (by omega) ht ho1.1 hT e145 hPb (fun h2 hb2 e145 => ⟨_, rfl, ?_⟩))
      rw [b1_f hcA]
      rw [sIf_n hcA] at e145
      have e152 := (hb2.2.2 152 (by decide)).trans e152
      have e153 := (hb2.2.2 153 (by decide)).trans e153
      have hb2 : But h h2 exP := hb1.tr (hb2.wide (fun j z => Or.inl z))
      refine ax_if_neF 30 dX12_test_18 (by decide) (by decide) ?_
      refine ax_aload_n dX12_test_21 rfl ?_
      refine ax_bipush dX12_test_22 (v := nI 61) (by decide) ?_
      refine ax_cV dX12_test_24 mmX12_hasSign lkX12_247 miX12_hasSign msX12_hasSign (ax_recv_of e145 rfl) rfl rfl (Nat.le_of_ble_eq_true rfl) (Nat.le_of_ble_eq_true rfl) rfl rfl (k_hasSign (q := 4) (d := dd) (by omega) ht ho1.1 hT e145 (hP.k5 hb2) (fun h3 hb3 e145 => ⟨_, rfl, ?_⟩))
      rw [b1_t hcB]
      rw [(sIf_y h0 hcB hE ho1.1 hkz).1, (sIf_y h0 hcB hE ho1.1 hkz).2] at e145
      refine ax_if_eqF 51 dX12_test_27 (by decide) (by decide) ?_
      exact nx h3 (hb2.tr (hb3.wide (fun j z => Or.inl z))) e145 ((hb3.2.2 152 (by decide)).trans e152) ((hb3.2.2 153 (by decide)).trans e153)
    · rw [if_neg (fun z => (hL.mp z.2).elim (fun y => hcA ⟨z.1, y⟩) (fun y => hcB ⟨z.1, y⟩))] at hj
      rw [← hj] at hq
      refine ax_aload_n dX12_test_5 rfl ?_
      refine ax_bipush dX12_test_6 (v := nI 60) (by decide) ?_
      refine ax_cV dX12_test_8 mmX12_isSign lkX12_159 miX12_isSign msX12_isSign (ax_recv_of e145 rfl) rfl rfl (Nat.le_of_ble_eq_true rfl) (Nat.le_of_ble_eq_true rfl) rfl rfl (k_isSign (q := 3) (d := dd + 1) (by omega) ht ho1.1 hT e145 hPb ⟨_, rfl, ?_⟩)
      rw [b1_f hcA]
      refine ax_istore_n dX12_test_11 (Nat.le_of_ble_eq_true rfl) ?_
      refine ax_aload_n dX12_test_12 rfl ?_
      refine ax_bipush dX12_test_13 (v := nI 60) (by decide) ?_
      refine ax_cV dX12_test_15 mmX12_hasSign lkX12_247 miX12_hasSign msX12_hasSign (ax_recv_of e145 rfl) rfl rfl (Nat.le_of_ble_eq_true rfl) (Nat.le_of_ble_eq_true rfl) rfl rfl (k_hasSign (q := 3) (d := dd) (by omega) ht ho1.1 hT e145 hPb (fun h2 hb2 e145 => ⟨_, rfl, ?_⟩))
      rw [b1_f hcA]
      rw [sIf_n hcA] at e145
      have e152 := (hb2.2.2 152 (by decide)).trans e152
      have e153 := (hb2.2.2 153 (by decide)).trans e153
      have hb2 : But h h2 exP := hb1.tr (hb2.wide (fun j z => Or.inl z))
      refine ax_if_neF 30 dX12_test_18 (by decide) (by decide) ?_
      refine ax_aload_n dX12_test_21 rfl ?_
      refine ax_bipush dX12_test_22 (v := nI 61) (by decide) ?_
      refine ax_cV dX12_test_24 mmX12_hasSign lkX12_247 miX12_hasSign msX12_hasSign (ax_recv_of e145 rfl) rfl rfl (Nat.le_of_ble_eq_true rfl) (Nat.le_of_ble_eq_true rfl) rfl rfl (k_hasSign (q := 4) (d := dd) (by omega) ht ho1.1 hT e145 (hP.k5 hb2) (fun h3 hb3 e145 => ⟨_, rfl, ?_⟩))
      rw [b1_f hcB]
      rw [sIf_n hcB] at e145
      refine ax_if_eqT 51 dX12_test_27 (by decide) rfl ?_
      exact ax_return dX12_test_51 rfl (hq _ O1 A1 (hb2.tr (hb3.wide (fun j z => Or.inl z))) e145 ((hb3.2.2 152 (by decide)).trans e152) ((hb3.2.2 153 (by decide)).trans e153) hX1)
theorem k_all {dep dd : Nat} {nxt : ES → ES} (ht3 : t ≤ 3) (ht : tsOK ts) (hE : tsE ts) (hT : TkQ ts So Va) (hn : FOK ts nxt) (hg : Gr ts nxt) (hN : DoesM th ta si nm ask nw os sw bc bm gg G (dd + 1) mX12_test (ax_in 3 [.ref 145, .int (nI dep)]) ts So Va l t nxt) : DoesM th ta si nm ask nw os sw bc bm gg G (dd + 2) mX12_all (ax_in 3 [.ref 145, .int (nI dep)]) ts So Va l t (join ts 0 nxt) := by
  intro e h Q O A Os As bs ho hle e145 hP e152 e153 hX hq
  have ht1 := ht.1
  unfold join at hq
  rw [if_neg (show ¬ 0 = 1 by omega)] at hq
  generalize hZ : joinL ts 0 nxt 1001 (nxt e) = Z at hq
  have loop : ∀ (m : Nat) (e1 : ES) (h1 : ax_H) (O1 A1 : Nat → Int32) (o2 : Option Value), (¬ e1.1.2 = 0 ∨ ts.length ≤ m + e1.1.1) → eOK ts e1 → e1.2.1.length ≤ e1.1.1 → joinL ts 0 nxt m e1 = Z → But h h1 exP → h1.2.2 145 = some (eM th ta si (nI e1.1.1) (nI e1.1.2) (nI (t + e1.2.1.length)) nm (nI l) ask nw os sw bc bm gg) → h1.2.2 152 = some (eI 2200 O1) → h1.2.2 153 = some (eI 2200 A1) → ExM O1 A1 Os As t bs e1.2.1 → X G (dd + 2) mX12_all 5 [some (.ref 145), some (.int (nI dep)), o2] [] h1 Q := by
    intro m
    induction m with
    | zero =>
      intro e1 h1 O1 A1 o2 hm ho1 hle1 hj hb1 e145 e152 e153 hX1
      have oo := ho1.1.1
      have h0 : ¬ e1.1.2 = 0 := hm.resolve_right (by omega)
      have hj' : e1 = Z := hj
      rw [← hj'] at hq
      have hPb := hP.k5 hb1
      refine ax_aload_n dX12_all_5 rfl ?_
      refine ax_bipush dX12_all_6 (v := nI 14) (by decide) ?_
      refine ax_cV dX12_all_8 mmX12_isWord lkX12_166 miX12_isWord msX12_isWord (ax_recv_of e145 rfl) rfl rfl (Nat.le_of_ble_eq_true rfl) (Nat.le_of_ble_eq_true rfl) rfl rfl (k_isWord (w := 14) (d := dd + 1) (by omega) ht ho1.1 hT e145 hPb ⟨_, rfl, ?_⟩)
      rw [b1_f (fun z => h0 z.1)]
      refine ax_if_neF 23 dX12_all_11 (by decide) (by decide) ?_
      refine ax_aload_n dX12_all_14 rfl ?_
      refine ax_bipush dX12_all_15 (v := nI 15) (by decide) ?_
      refine ax_cV dX12_all_17 mmX12_isWord lkX12_166 miX12_isWord msX12_isWord (ax_recv_of e145 rfl) rfl rfl (Nat.le_of_ble_eq_true rfl) (Nat.le_of_ble_eq_true rfl) rfl rfl (k_isWord (w := 15) (d := dd + 1) (by omega) ht ho1.1 hT e145 hPb ⟨_, rfl, ?_⟩)
      rw [b1_f (fun z => h0 z.1)]
      refine ax_if_eqT 64 dX12_all_20 (by decide) rfl ?_
      exact ax_return dX12_all_64 rfl (hq _ O1 A1 hb1 e145 e152 e153 hX1)
    | succ m ih =>
      intro e1 h1 O1 A1 o2 hm ho1 hle1 hj hb1 e145 e152 e153 hX1
      have oo := ho1.1.1
      have hPb := hP.k5 hb1
      have hL := (lvls _ (ht.2 _ ho1.1.1).1).2.2.2
      unfold joinL at hj
      by_cases hcA : e1.1.2 = 0 ∧ kA ts e1.1.1 = kwK 14
      · obtain ⟨h0, hkk⟩ := id hcA
        have hkz : ¬ kA ts e1.1.1 = 0 := by rw [hkk]; decide
        rw [if_pos ⟨h0, hL.mpr (Or.inl hkk)⟩, hkk, show stp (kwK 14) = 9 from by decide] at hj
        have gr := hg (sStep ts e1.1, e1.2) ⟨sStep_ok ho1.1, ho1.2⟩
        have st1 := sStep_y hE ho1.1 h0 hkz
        have a1 : (sStep ts e1.1).1 = e1.1.1 + 1 := by rw [st1]
        have gr1 := gr.1
        have gr2 := gr.2.1
        dsimp only at gr1 gr2
        rw [a1] at gr1 gr2
        have o3 := hn (sStep ts e1.1, e1.2) ⟨sStep_ok ho1.1, ho1.2⟩
        have o31 := o3.1.1
        have nx : ∀ (h2 : ax_H), But h h2 exP → h2.2.2 145 = some (eM th ta si (nI (sStep ts e1.1).1) (nI (sStep ts e1.1).2) (nI (t + e1.2.1.length)) nm (nI l) ask nw os sw bc bm gg) → h2.2.2 152 = some (eI 2200 O1) → h2.2.2 153 = some (eI 2200 A1) → X G (dd + 2) mX12_all 40 [some (.ref 145), some (.int (nI dep)), some (.int 1)] [] h2 Q := by
          intro h2 hb2 e145 e152 e153
          refine ax_aload_n dX12_all_40 rfl ?_
          refine ax_iload_n dX12_all_41 rfl ?_
          refine ax_cV dX12_all_42 mmX12_test lkX12_241 miX12_test msX12_test (ax_recv_of e145 rfl) rfl rfl (Nat.le_of_ble_eq_true rfl) (Nat.le_of_ble_eq_true rfl) rfl rfl (hN (sStep ts e1.1, e1.2) h2 _ O1 A1 Os As bs ⟨sStep_ok ho1.1, ho1.2⟩ (by dsimp only; omega) e145 (hP.k5 hb2) e152 e153 hX1 (fun h3 O3 A3 hb3 e145 e152 e153 hX3 => ⟨_, rfl, ?_⟩))
          generalize hG : nxt (sStep ts e1.1, e1.2) = e3 at hj o3 o31 gr1 gr2 e145 hX3
          have hb3 := hb2.tr hb3
          refine ax_aload_n dX12_all_45 rfl ?_
          refine ax_iload_n dX12_all_46 rfl ?_
          refine ax_if_eqF 55 dX12_all_47 (by decide) (by decide) ?_
          refine ax_bipush dX12_all_50 (v := nI 9) (by decide) ?_
          refine ax_goto 57 dX12_all_52 (by decide) ?_
          refine ax_iconst dX12_all_57 (v := nI 0) (by decide) ?_
          refine ax_cV dX12_all_58 mmX12_emit lkX12_237 miX12_emit msX12_emit (ax_recv_of e145 rfl) rfl rfl (Nat.le_of_ble_eq_true rfl) (Nat.le_of_ble_eq_true rfl) rfl rfl (k_emit (o := 9) (a := 0) (k := t + e3.2.1.length) (d := dd + 1) (by omega) e145 e152 e153 (fun h4 hb4 e145 e152 e153 => ⟨_, rfl, ?_⟩))
          rw [eEmit_e (by omega)] at hj
          refine ax_goto 5 dX12_all_61 (by decide) ?_
          refine ih (e3.1, e3.2.1 ++ [9], hlN e3.2.2 9) h4 _ _ _ ?_ ?_ ?_ hj (hb3.tr hb4) ?_ e152 e153 (hX3.emit (c := 9))
          · dsimp only; omega
          · refine ⟨o3.1, ?_⟩
            dsimp only
            rw [List.length_append, List.length_singleton]; omega
          · dsimp only
            rw [List.length_append, List.length_singleton]; omega
          · rw [e145]
            dsimp only
            rw [List.length_append, List.length_singleton, Nat.add_assoc]
        refine ax_aload_n dX12_all_5 rfl ?_
        refine ax_bipush dX12_all_6 (v := nI 14) (by decide) ?_
        refine ax_cV dX12_all_8 mmX12_isWord lkX12_166 miX12_isWord msX12_isWord (ax_recv_of e145 rfl) rfl rfl (Nat.le_of_ble_eq_true rfl) (Nat.le_of_ble_eq_true rfl) rfl rfl (k_isWord (w := 14) (d := dd + 1) (by omega) ht ho1.1 hT e145 hPb ⟨_, rfl, ?_⟩)
        rw [b1_t hcA]
        refine ax_if_neT 23 dX12_all_11 (by decide) (by decide) ?_
        refine ax_aload_n dX12_all_23 rfl ?_
        refine ax_bipush dX12_all_24 (v := nI 14) (by decide) ?_
        refine ax_cV dX12_all_26 mmX12_isWord lkX12_166 miX12_isWord msX12_isWord (ax_recv_of e145 rfl) rfl rfl (Nat.le_of_ble_eq_true rfl) (Nat.le_of_ble_eq_true rfl) rfl rfl (k_isWord (w := 14) (d := dd + 1) (by omega) ht ho1.1 hT e145 hPb ⟨_, rfl, ?_⟩)
        rw [b1_t hcA]
        refine ax_istore_n dX12_all_29 (Nat.le_of_ble_eq_true rfl) ?_
        refine ax_aload_n dX12_all_30 rfl ?_
        refine ax_dup dX12_all_31 rfl ?_
        refine ax_getf dX12_all_32 flX12_153 e145 rfl ?_
        refine ax_iconst dX12_all_35 (v := nI 1) (by decide) ?_
        refine ax_iadd dX12_all_36 ?_
        refine ax_putf dX12_all_37 flX12_153 e145 (Nat.le_of_ble_eq_true rfl) (fun _ => ⟨rfl, rfl⟩) ?_
        rw [nI_add e1.1.1 1, ← a1, show nI e1.1.2 = nI (sStep ts e1.1).2 from by rw [st1, h0]]
        exact nx _ (hb1.wr (Or.inl rfl)) ax_wr_eq ((ax_wr_ne (by decide)).trans e152) ((ax_wr_ne (by decide)).trans e153)
      · by_cases hcB : e1.1.2 = 0 ∧ kA ts e1.1.1 = kwK 15
        · obtain ⟨h0, hkk⟩ := id hcB
          have hkz : ¬ kA ts e1.1.1 = 0 := by rw [hkk]; decide
          rw [if_pos ⟨h0, hL.mpr (Or.inr hkk)⟩, hkk, show stp (kwK 15) = 10 from by decide] at hj
          have gr := hg (sStep ts e1.1, e1.2) ⟨sStep_ok ho1.1, ho1.2⟩
          have st1 := sStep_y hE ho1.1 h0 hkz
          have a1 : (sStep ts e1.1).1 = e1.1.1 + 1 := by rw [st1]
          have gr1 := gr.1
          have gr2 := gr.2.1
          dsimp only at gr1 gr2
          rw [a1] at gr1 gr2
          have o3 := hn (sStep ts e1.1, e1.2) ⟨sStep_ok ho1.1, ho1.2⟩
          have o31 := o3.1.1
          have nx : ∀ (h2 : ax_H), But h h2 exP → h2.2.2 145 = some (eM th ta si (nI (sStep ts e1.1).1) (nI (sStep ts e1.1).2) (nI (t + e1.2.1.length)) nm (nI l) ask nw os sw bc bm gg) → h2.2.2 152 = some (eI 2200 O1) → h2.2.2 153 = some (eI 2200 A1) → X G (dd + 2) mX12_all 40 [some (.ref 145), some (.int (nI dep)), some (.int 0)] [] h2 Q := by
            intro h2 hb2 e145 e152 e153
            refine ax_aload_n dX12_all_40 rfl ?_
            refine ax_iload_n dX12_all_41 rfl ?_
            refine ax_cV dX12_all_42 mmX12_test lkX12_241 miX12_test msX12_test (ax_recv_of e145 rfl) rfl rfl (Nat.le_of_ble_eq_true rfl) (Nat.le_of_ble_eq_true rfl) rfl rfl (hN (sStep ts e1.1, e1.2) h2 _ O1 A1 Os As bs ⟨sStep_ok ho1.1, ho1.2⟩ (by dsimp only; omega) e145 (hP.k5 hb2) e152 e153 hX1 (fun h3 O3 A3 hb3 e145 e152 e153 hX3 => ⟨_, rfl, ?_⟩))
            generalize hG : nxt (sStep ts e1.1, e1.2) = e3 at hj o3 o31 gr1 gr2 e145 hX3
            have hb3 := hb2.tr hb3
            refine ax_aload_n dX12_all_45 rfl ?_
            refine ax_iload_n dX12_all_46 rfl ?_
            refine ax_if_eqT 55 dX12_all_47 (by decide) rfl ?_
            refine ax_bipush dX12_all_55 (v := nI 10) (by decide) ?_
            refine ax_iconst dX12_all_57 (v := nI 0) (by decide) ?_
            refine ax_cV dX12_all_58 mmX12_emit lkX12_237 miX12_emit msX12_emit (ax_recv_of e145 rfl) rfl rfl (Nat.le_of_ble_eq_true rfl) (Nat.le_of_ble_eq_true rfl) rfl rfl (k_emit (o := 10) (a := 0) (k := t + e3.2.1.length) (d := dd + 1) (by omega) e145 e152 e153 (fun h4 hb4 e145 e152 e153 => ⟨_, rfl, ?_⟩))
            rw [eEmit_e (by omega)] at hj
            refine ax_goto 5 dX12_all_61 (by decide) ?_
            refine ih (e3.1, e3.2.1 ++ [10], hlN e3.2.2 10) h4 _ _ _ ?_ ?_ ?_ hj (hb3.tr hb4) ?_ e152 e153 (hX3.emit (c := 10))
            · dsimp only; omega
            · refine ⟨o3.1, ?_⟩
              dsimp only
              rw [List.length_append, List.length_singleton]; omega
            · dsimp only
              rw [List.length_append, List.length_singleton]; omega
            · rw [e145]
              dsimp only
              rw [List.length_append, List.length_singleton, Nat.add_assoc]
          refine ax_aload_n dX12_all_5 rfl ?_
          refine ax_bipush dX12_all_6 (v := nI 14) (by decide) ?_
          refine ax_cV dX12_all_8 mmX12_isWord lkX12_166 miX12_isWord msX12_isWord (ax_recv_of e145 rfl) rfl rfl (Nat.le_of_ble_eq_true rfl) (Nat.le_of_ble_eq_true rfl) rfl rfl (k_isWord (w := 14) (d := dd + 1) (by omega) ht ho1.1 hT e145 hPb ⟨_, rfl, ?_⟩)
          rw [b1_f hcA]
          refine ax_if_neF 23 dX12_all_11 (by decide) (by decide) ?_
          refine ax_aload_n dX12_all_14 rfl ?_
          refine ax_bipush dX12_all_15 (v := nI 15) (by decide) ?_
          refine ax_cV dX12_all_17 mmX12_isWord lkX12_166 miX12_isWord msX12_isWord (ax_recv_of e145 rfl) rfl rfl (Nat.le_of_ble_eq_true rfl) (Nat.le_of_ble_eq_true rfl) rfl rfl (k_isWord (w := 15) (d := dd + 1) (by omega) ht ho1.1 hT e145 hPb ⟨_, rfl, ?_⟩)
          rw [b1_t hcB]
          refine ax_if_eqF 64 dX12_all_20 (by decide) (by decide) ?_
          refine ax_aload_n dX12_all_23 rfl ?_
          refine ax_bipush dX12_all_24 (v := nI 14) (by decide) ?_
          refine ax_cV dX12_all_26 mmX12_isWord lkX12_166 miX12_isWord msX12_isWord (ax_recv_of e145 rfl) rfl rfl (Nat.le_of_ble_eq_true rfl) (Nat.le_of_ble_eq_true rfl) rfl rfl (k_isWord (w := 14) (d := dd + 1) (by omega) ht ho1.1 hT e145 hPb ⟨_, rfl, ?_⟩)
          rw [b1_f hcA]
          refine ax_istore_n dX12_all_29 (Nat.le_of_ble_eq_true rfl) ?_
          refine ax_aload_n dX12_all_30 rfl ?_
          refine ax_dup dX12_all_31 rfl ?_
          refine ax_getf dX12_all_32 flX12_153 e145 rfl ?_
          refine ax_iconst dX12_all_35 (v := nI 1) (by decide) ?_
          refine ax_iadd dX12_all_36 ?_
          refine ax_putf dX12_all_37 flX12_153 e145 (Nat.le_of_ble_eq_true rfl) (fun _ => ⟨rfl, rfl⟩) ?_
          rw [nI_add e1.1.1 1, ← a1, show nI e1.1.2 = nI (sStep ts e1.1).2 from by rw [st1, h0]]
          exact nx _ (hb1.wr (Or.inl rfl)) ax_wr_eq ((ax_wr_ne (by decide)).trans e152) ((ax_wr_ne (by decide)).trans e153)
        · rw [if_neg (fun z => (hL.mp z.2).elim (fun y => hcA ⟨z.1, y⟩) (fun y => hcB ⟨z.1, y⟩))] at hj
          rw [← hj] at hq
          refine ax_aload_n dX12_all_5 rfl ?_
          refine ax_bipush dX12_all_6 (v := nI 14) (by decide) ?_
          refine ax_cV dX12_all_8 mmX12_isWord lkX12_166 miX12_isWord msX12_isWord (ax_recv_of e145 rfl) rfl rfl (Nat.le_of_ble_eq_true rfl) (Nat.le_of_ble_eq_true rfl) rfl rfl (k_isWord (w := 14) (d := dd + 1) (by omega) ht ho1.1 hT e145 hPb ⟨_, rfl, ?_⟩)
          rw [b1_f (hcA)]
          refine ax_if_neF 23 dX12_all_11 (by decide) (by decide) ?_
          refine ax_aload_n dX12_all_14 rfl ?_
          refine ax_bipush dX12_all_15 (v := nI 15) (by decide) ?_
          refine ax_cV dX12_all_17 mmX12_isWord lkX12_166 miX12_isWord msX12_isWord (ax_recv_of e145 rfl) rfl rfl (Nat.le_of_ble_eq_true rfl) (Nat.le_of_ble_eq_true rfl) rfl rfl (k_isWord (w := 15) (d := dd + 1) (by omega) ht ho1.1 hT e145 hPb ⟨_, rfl, ?_⟩)
          rw [b1_f (hcB)]
          refine ax_if_eqT 64 dX12_all_20 (by decide) rfl ?_
          exact ax_return dX12_all_64 rfl (hq _ O1 A1 hb1 e145 e152 e153 hX1)
  have gr0 := hg e ho
  refine ax_aload_n dX12_all_0 rfl ?_
  refine ax_iload_n dX12_all_1 rfl ?_
  refine ax_cV dX12_all_2 mmX12_test lkX12_241 miX12_test msX12_test (ax_recv_of e145 rfl) rfl rfl (Nat.le_of_ble_eq_true rfl) (Nat.le_of_ble_eq_true rfl) rfl rfl (hN e h _ O A Os As bs ho hle e145 hP e152 e153 hX (fun h1 O1 A1 hb1 e145 e152 e153 hX1 => ⟨_, rfl, ?_⟩))
  exact loop 1001 (nxt e) h1 O1 A1 none (Or.inr (by omega)) (hn e ho) (by omega) hZ hb1 e145 e152 e153 hX1
end MEX
