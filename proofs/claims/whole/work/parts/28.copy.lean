/-! ===== State: takeRoads, takeAll, begin; Trades: take, add, allCarry ===== -/
section CP
variable {G : ax_G} {d : Nat} {h : ax_H} {Q : ax_O → ax_H → Prop} {N : Nt} {σ : Sd}
theorem cpy0 {α : Type} {f g : Nat → α} {n j : Nat} (hj : j < n) : va_cpy f g 0 0 n j = f j := by
  unfold va_cpy
  rw [if_pos (by omega)]
  congr 1
  omega
theorem cpyA {f g : Nat → Int32} {n m : Nat} {x : Nat → Nat} (hm : m ≤ n) (hf : ∀ j, j < m → f j = nI (x j)) : ∀ j, j < m → va_cpy f g 0 0 n j = nI (x j) := fun j hj => (cpy0 (by omega)).trans (hf j hj)
/-- a State of which nothing is known -/
def anSt (h : ax_H) (k kp : Nat) : Prop := (∃ y, h.2.2 k = some (eSt k y (nI kp))) ∧ anA h (k + 1) 10 ∧ anA h (k + 2) 50 ∧ anA h (k + 3) 50 ∧ anA h (k + 4) 5 ∧ anA h (k + 5) 6 ∧ anA h (k + 6) 6 ∧ anA h (k + 7) 5 ∧ anA h (k + 8) (kp * 50)
theorem isA.any {k n m : Nat} {g : Nat → Nat} (a : isA h k n m g) : anA h k n := by
  obtain ⟨f, e, -⟩ := a
  exact ⟨f, e⟩
theorem StIs.any {k kp : Nat} (a : StIs h k kp N σ) : anSt h k kp := by
  obtain ⟨e, a1, a2, a3, a4, ⟨f, e5, -⟩, a6, a7, ⟨g, e8, -⟩⟩ := a
  exact ⟨⟨_, e⟩, a1.any, a2.any, a3.any, a4.any, ⟨f, e5⟩, a6.any, a7.any, ⟨g, e8⟩⟩
theorem anSt.kept {h' : ax_H} {k kp : Nat} (hk : ∀ j, k ≤ j → j ≤ k + 8 → h'.2.2 j = h.2.2 j) (a : anSt h k kp) : anSt h' k kp := by
  obtain ⟨⟨y, e⟩, a1, a2, a3, a4, a5, a6, a7, a8⟩ := a
  exact ⟨⟨y, (hk _ (by omega) (by omega)).trans e⟩, a1.kept (hk _ (by omega) (by omega)), a2.kept (hk _ (by omega) (by omega)), a3.kept (hk _ (by omega) (by omega)), a4.kept (hk _ (by omega) (by omega)), a5.kept (hk _ (by omega) (by omega)), a6.kept (hk _ (by omega) (by omega)), a7.kept (hk _ (by omega) (by omega)), a8.kept (hk _ (by omega) (by omega))⟩
def anTr (h : ax_H) (k : Nat) : Prop := (∃ m, h.2.2 k = some (eTr k m)) ∧ anA h (k + 1) 6 ∧ anA h (k + 2) 6 ∧ anA h (k + 3) 6 ∧ anA h (k + 4) 6
theorem TrIs.any {k T : Nat} {tr : Nat → Nat → Nat} (a : TrIs h k T tr) : anTr h k := by
  obtain ⟨e, a1, a2, a3, a4⟩ := a
  exact ⟨⟨_, e⟩, a1.any, a2.any, a3.any, a4.any⟩
theorem anTr.kept {h' : ax_H} {k : Nat} (hk : ∀ j, k ≤ j → j ≤ k + 4 → h'.2.2 j = h.2.2 j) (a : anTr h k) : anTr h' k := by
  obtain ⟨⟨y, e⟩, a1, a2, a3, a4⟩ := a
  exact ⟨⟨y, (hk _ (by omega) (by omega)).trans e⟩, a1.kept (hk _ (by omega) (by omega)), a2.kept (hk _ (by omega) (by omega)), a3.kept (hk _ (by omega) (by omega)), a4.kept (hk _ (by omega) (by omega))⟩
/-- a State has another's year and roads -/
def TkR (h : ax_H) (k kp : Nat) (N : Nt) (σ : Sd) : Prop := h.2.2 k = some (eSt k (nI (σ 0 0)) (nI kp)) ∧ isA h (k + 1) 10 (nR N) (σ 1) ∧ isA h (k + 2) 50 50 (σ 2) ∧ isA h (k + 3) 50 50 (σ 3) ∧ isA h (k + 4) 5 5 (σ 4) ∧
  (∃ f, h.2.2 (k + 5) = some (eI 6 f) ∧ ∀ t, t < 6 → f t = nI (σ 5 t) - nI 1) ∧ isA h (k + 6) 6 6 (σ 6)
theorem c_takeRoads {k j kp kj : Nat} (hkj : k + 8 < j ∨ j + 8 < k) (hN : nOK N) (hA : anSt h k kp) (hE : StIs h j kj N σ)
    (hq : ∀ h', But h h' (fun i => k ≤ i ∧ i ≤ k + 6) → TkR h' k kp N σ → Q (.inl none) h') : X G (d + 1) mX3_takeRoads 0 (ax_in 2 [.ref k, .ref j]) [] h Q := by
  obtain ⟨⟨y, ek⟩, ⟨g1, ek_1⟩, ⟨g2, ek_2⟩, ⟨g3, ek_3⟩, ⟨g4, ek_4⟩, ⟨g5, ek_5⟩, ⟨g6, ek_6⟩, -, -⟩ := hA
  obtain ⟨ej, ⟨f1, ej_1, q1⟩, ⟨f2, ej_2, q2⟩, ⟨f3, ej_3, q3⟩, ⟨f4, ej_4, q4⟩, ⟨f5, ej_5, q5⟩, ⟨f6, ej_6, q6⟩, -, -⟩ := hE
  have hR := hN.2.2.1
  refine ax_aload_n dX3_takeRoads_0 rfl ?_
  refine ax_aload_n dX3_takeRoads_1 rfl ?_
  refine ax_getf dX3_takeRoads_2 flX3_40 ej rfl ?_
  refine ax_putf dX3_takeRoads_5 flX3_40 ek (Nat.le_of_ble_eq_true rfl) (fun _ => ⟨rfl, rfl⟩) ?_
  refine ax_aload_n dX3_takeRoads_8 rfl ?_
  refine ax_getf dX3_takeRoads_9 flX3_9 ((ax_wr_ne (by omega)).trans (ej)) rfl ?_
  refine ax_iconst dX3_takeRoads_12 (v := nI 0) (by decide) ?_
  refine ax_aload_n dX3_takeRoads_13 rfl ?_
  refine ax_getf dX3_takeRoads_14 flX3_9 ax_wr_eq rfl ?_
  refine ax_iconst dX3_takeRoads_17 (v := nI 0) (by decide) ?_
  refine ax_bipush dX3_takeRoads_18 (v := nI 10) (by decide) ?_
  refine ax_copyi dX3_takeRoads_20 lkX3_48 cp_native cp_static cp_init ((ax_wr_ne (by omega)).trans (ej_1)) ((ax_wr_ne (by omega)).trans (ek_1)) (sp' := 0) (dp' := 0) (n' := 10) (by decide) (by decide) (by decide) (by decide) (by decide) (by decide) (by omega) (by omega) rfl (Nat.le_of_ble_eq_true rfl) (by omega) ?_
  refine ax_aload_n dX3_takeRoads_23 rfl ?_
  refine ax_getf dX3_takeRoads_24 flX3_15 ((ax_wr_ne (by omega)).trans ((ax_wr_ne (by omega)).trans (ej))) rfl ?_
  refine ax_iconst dX3_takeRoads_27 (v := nI 0) (by decide) ?_
  refine ax_aload_n dX3_takeRoads_28 rfl ?_
  refine ax_getf dX3_takeRoads_29 flX3_15 ((ax_wr_ne (by omega)).trans (ax_wr_eq)) rfl ?_
  refine ax_iconst dX3_takeRoads_32 (v := nI 0) (by decide) ?_
  refine ax_bipush dX3_takeRoads_33 (v := nI 50) (by decide) ?_
  refine ax_copyi dX3_takeRoads_35 lkX3_48 cp_native cp_static cp_init ((ax_wr_ne (by omega)).trans ((ax_wr_ne (by omega)).trans (ej_2))) ((ax_wr_ne (by omega)).trans ((ax_wr_ne (by omega)).trans (ek_2))) (sp' := 0) (dp' := 0) (n' := 50) (by decide) (by decide) (by decide) (by decide) (by decide) (by decide) (by omega) (by omega) rfl (Nat.le_of_ble_eq_true rfl) (by omega) ?_
  refine ax_aload_n dX3_takeRoads_38 rfl ?_
  refine ax_getf dX3_takeRoads_39 flX3_18 ((ax_wr_ne (by omega)).trans ((ax_wr_ne (by omega)).trans ((ax_wr_ne (by omega)).trans (ej)))) rfl ?_
  refine ax_iconst dX3_takeRoads_42 (v := nI 0) (by decide) ?_
  refine ax_aload_n dX3_takeRoads_43 rfl ?_
  refine ax_getf dX3_takeRoads_44 flX3_18 ((ax_wr_ne (by omega)).trans ((ax_wr_ne (by omega)).trans (ax_wr_eq))) rfl ?_
  refine ax_iconst dX3_takeRoads_47 (v := nI 0) (by decide) ?_
  refine ax_bipush dX3_takeRoads_48 (v := nI 50) (by decide) ?_
  refine ax_copyi dX3_takeRoads_50 lkX3_48 cp_native cp_static cp_init ((ax_wr_ne (by omega)).trans ((ax_wr_ne (by omega)).trans ((ax_wr_ne (by omega)).trans (ej_3)))) ((ax_wr_ne (by omega)).trans ((ax_wr_ne (by omega)).trans ((ax_wr_ne (by omega)).trans (ek_3)))) (sp' := 0) (dp' := 0) (n' := 50) (by decide) (by decide) (by decide) (by decide) (by decide) (by decide) (by omega) (by omega) rfl (Nat.le_of_ble_eq_true rfl) (by omega) ?_
  refine ax_aload_n dX3_takeRoads_53 rfl ?_
  refine ax_getf dX3_takeRoads_54 flX3_21 ((ax_wr_ne (by omega)).trans ((ax_wr_ne (by omega)).trans ((ax_wr_ne (by omega)).trans ((ax_wr_ne (by omega)).trans (ej))))) rfl ?_
  refine ax_iconst dX3_takeRoads_57 (v := nI 0) (by decide) ?_
  refine ax_aload_n dX3_takeRoads_58 rfl ?_
  refine ax_getf dX3_takeRoads_59 flX3_21 ((ax_wr_ne (by omega)).trans ((ax_wr_ne (by omega)).trans ((ax_wr_ne (by omega)).trans (ax_wr_eq)))) rfl ?_
  refine ax_iconst dX3_takeRoads_62 (v := nI 0) (by decide) ?_
  refine ax_iconst dX3_takeRoads_63 (v := nI 5) (by decide) ?_
  refine ax_copyi dX3_takeRoads_64 lkX3_48 cp_native cp_static cp_init ((ax_wr_ne (by omega)).trans ((ax_wr_ne (by omega)).trans ((ax_wr_ne (by omega)).trans ((ax_wr_ne (by omega)).trans (ej_4))))) ((ax_wr_ne (by omega)).trans ((ax_wr_ne (by omega)).trans ((ax_wr_ne (by omega)).trans ((ax_wr_ne (by omega)).trans (ek_4))))) (sp' := 0) (dp' := 0) (n' := 5) (by decide) (by decide) (by decide) (by decide) (by decide) (by decide) (by omega) (by omega) rfl (Nat.le_of_ble_eq_true rfl) (by omega) ?_
  refine ax_aload_n dX3_takeRoads_67 rfl ?_
  refine ax_getf dX3_takeRoads_68 flX3_24 ((ax_wr_ne (by omega)).trans ((ax_wr_ne (by omega)).trans ((ax_wr_ne (by omega)).trans ((ax_wr_ne (by omega)).trans ((ax_wr_ne (by omega)).trans (ej)))))) rfl ?_
  refine ax_iconst dX3_takeRoads_71 (v := nI 0) (by decide) ?_
  refine ax_aload_n dX3_takeRoads_72 rfl ?_
  refine ax_getf dX3_takeRoads_73 flX3_24 ((ax_wr_ne (by omega)).trans ((ax_wr_ne (by omega)).trans ((ax_wr_ne (by omega)).trans ((ax_wr_ne (by omega)).trans (ax_wr_eq))))) rfl ?_
  refine ax_iconst dX3_takeRoads_76 (v := nI 0) (by decide) ?_
  refine ax_bipush dX3_takeRoads_77 (v := nI 6) (by decide) ?_
  refine ax_copyi dX3_takeRoads_79 lkX3_48 cp_native cp_static cp_init ((ax_wr_ne (by omega)).trans ((ax_wr_ne (by omega)).trans ((ax_wr_ne (by omega)).trans ((ax_wr_ne (by omega)).trans ((ax_wr_ne (by omega)).trans (ej_5)))))) ((ax_wr_ne (by omega)).trans ((ax_wr_ne (by omega)).trans ((ax_wr_ne (by omega)).trans ((ax_wr_ne (by omega)).trans ((ax_wr_ne (by omega)).trans (ek_5)))))) (sp' := 0) (dp' := 0) (n' := 6) (by decide) (by decide) (by decide) (by decide) (by decide) (by decide) (by omega) (by omega) rfl (Nat.le_of_ble_eq_true rfl) (by omega) ?_
  refine ax_aload_n dX3_takeRoads_82 rfl ?_
  refine ax_getf dX3_takeRoads_83 flX3_27 ((ax_wr_ne (by omega)).trans ((ax_wr_ne (by omega)).trans ((ax_wr_ne (by omega)).trans ((ax_wr_ne (by omega)).trans ((ax_wr_ne (by omega)).trans ((ax_wr_ne (by omega)).trans (ej))))))) rfl ?_
  refine ax_iconst dX3_takeRoads_86 (v := nI 0) (by decide) ?_
  refine ax_aload_n dX3_takeRoads_87 rfl ?_
  refine ax_getf dX3_takeRoads_88 flX3_27 ((ax_wr_ne (by omega)).trans ((ax_wr_ne (by omega)).trans ((ax_wr_ne (by omega)).trans ((ax_wr_ne (by omega)).trans ((ax_wr_ne (by omega)).trans (ax_wr_eq)))))) rfl ?_
  refine ax_iconst dX3_takeRoads_91 (v := nI 0) (by decide) ?_
  refine ax_bipush dX3_takeRoads_92 (v := nI 6) (by decide) ?_
  refine ax_copyi dX3_takeRoads_94 lkX3_48 cp_native cp_static cp_init ((ax_wr_ne (by omega)).trans ((ax_wr_ne (by omega)).trans ((ax_wr_ne (by omega)).trans ((ax_wr_ne (by omega)).trans ((ax_wr_ne (by omega)).trans ((ax_wr_ne (by omega)).trans (ej_6))))))) ((ax_wr_ne (by omega)).trans ((ax_wr_ne (by omega)).trans ((ax_wr_ne (by omega)).trans ((ax_wr_ne (by omega)).trans ((ax_wr_ne (by omega)).trans ((ax_wr_ne (by omega)).trans (ek_6))))))) (sp' := 0) (dp' := 0) (n' := 6) (by decide) (by decide) (by decide) (by decide) (by decide) (by decide) (by omega) (by omega) rfl (Nat.le_of_ble_eq_true rfl) (by omega) ?_
  refine ax_return dX3_takeRoads_97 rfl (hq _ (((((((But.rf.wr (by omega)).wr (by omega)).wr (by omega)).wr (by omega)).wr (by omega)).wr (by omega)).wr (by omega)) ⟨((ax_wr_ne (by omega)).trans ((ax_wr_ne (by omega)).trans ((ax_wr_ne (by omega)).trans ((ax_wr_ne (by omega)).trans ((ax_wr_ne (by omega)).trans ((ax_wr_ne (by omega)).trans (ax_wr_eq))))))), ⟨_, ((ax_wr_ne (by omega)).trans ((ax_wr_ne (by omega)).trans ((ax_wr_ne (by omega)).trans ((ax_wr_ne (by omega)).trans ((ax_wr_ne (by omega)).trans (ax_wr_eq)))))), cpyA (by omega) q1⟩, ⟨_, ((ax_wr_ne (by omega)).trans ((ax_wr_ne (by omega)).trans ((ax_wr_ne (by omega)).trans ((ax_wr_ne (by omega)).trans (ax_wr_eq))))), cpyA (by omega) q2⟩, ⟨_, ((ax_wr_ne (by omega)).trans ((ax_wr_ne (by omega)).trans ((ax_wr_ne (by omega)).trans (ax_wr_eq)))), cpyA (by omega) q3⟩, ⟨_, ((ax_wr_ne (by omega)).trans ((ax_wr_ne (by omega)).trans (ax_wr_eq))), cpyA (by omega) q4⟩, ⟨_, ((ax_wr_ne (by omega)).trans (ax_wr_eq)), fun t ht => (cpy0 ht).trans (q5 t ht)⟩, ⟨_, ax_wr_eq, cpyA (by omega) q6⟩⟩)
theorem c_takeAll {k j : Nat} (hkj : k + 8 < j ∨ j + 8 < k) (hN : nOK N) (hA : anSt h k 40) (hE : StIs h j 40 N σ)
    (hq : ∀ h', But h h' (fun i => k ≤ i ∧ i ≤ k + 8) → StIs h' k 40 N σ → Q (.inl none) h') : X G (d + 2) mX3_takeAll 0 (ax_in 2 [.ref k, .ref j]) [] h Q := by
  obtain ⟨y, ek⟩ := hA.1
  refine ax_aload_n dX3_takeAll_0 rfl ?_
  refine ax_aload_n dX3_takeAll_1 rfl ?_
  refine ax_cV dX3_takeAll_2 mmX3_takeRoads lkX3_60 miX3_takeRoads msX3_takeRoads (ax_recv_of ek rfl) rfl rfl (Nat.le_of_ble_eq_true rfl) (Nat.le_of_ble_eq_true rfl) rfl rfl (c_takeRoads hkj hN hA hE (fun h1 hb ht => ⟨_, rfl, ?_⟩))
  have hE1 : StIs h1 j 40 N σ := hE.kept (fun i z1 z2 => hb.2.2 i (by omega))
  obtain ⟨-, -, -, -, -, -, -, ⟨g7, ek_7⟩, ⟨g8, ek_8⟩⟩ := id hA
  have ek_7 := (hb.2.2 (k + 7) (by omega)).trans ek_7
  have ek_8 := (hb.2.2 (k + 8) (by omega)).trans ek_8
  obtain ⟨ek, t1, t2, t3, t4, ⟨g5, t5, q5⟩, t6⟩ := ht
  obtain ⟨ej, -, -, -, -, -, -, ⟨f7, ej_7, q7⟩, ⟨f8, ej_8, q8⟩⟩ := hE1
  refine ax_aload_n dX3_takeAll_5 rfl ?_
  refine ax_getf dX3_takeAll_6 flX3_30 ej rfl ?_
  refine ax_iconst dX3_takeAll_9 (v := nI 0) (by decide) ?_
  refine ax_aload_n dX3_takeAll_10 rfl ?_
  refine ax_getf dX3_takeAll_11 flX3_30 ek rfl ?_
  refine ax_iconst dX3_takeAll_14 (v := nI 0) (by decide) ?_
  refine ax_iconst dX3_takeAll_15 (v := nI 5) (by decide) ?_
  refine ax_copyi dX3_takeAll_16 lkX3_48 cp_native cp_static cp_init ej_7 ek_7 (sp' := 0) (dp' := 0) (n' := 5) (by decide) (by decide) (by decide) (by decide) (by decide) (by decide) (by omega) (by omega) rfl (Nat.le_of_ble_eq_true rfl) (by omega) ?_
  refine ax_aload_n dX3_takeAll_19 rfl ?_
  refine ax_getf dX3_takeAll_20 flX3_37 ((ax_wr_ne (by omega)).trans (ej)) rfl ?_
  refine ax_iconst dX3_takeAll_23 (v := nI 0) (by decide) ?_
  refine ax_aload_n dX3_takeAll_24 rfl ?_
  refine ax_getf dX3_takeAll_25 flX3_37 ((ax_wr_ne (by omega)).trans (ek)) rfl ?_
  refine ax_iconst dX3_takeAll_28 (v := nI 0) (by decide) ?_
  refine ax_aload_n dX3_takeAll_29 rfl ?_
  refine ax_getf dX3_takeAll_30 flX3_37 ((ax_wr_ne (by omega)).trans (ek)) rfl ?_
  refine ax_alen dX3_takeAll_33 ((ax_wr_ne (by omega)).trans (ek_8)) (by decide) rfl ?_
  refine ax_aload_n dX3_takeAll_34 rfl ?_
  refine ax_getf dX3_takeAll_35 flX3_37 ((ax_wr_ne (by omega)).trans (ej)) rfl ?_
  refine ax_alen dX3_takeAll_38 ((ax_wr_ne (by omega)).trans (ej_8)) (by decide) rfl ?_
  refine ax_mmin dX3_takeAll_39 lkX3_64 min_w2 min_w3 min_w4 rfl (Nat.le_of_ble_eq_true rfl) (by omega) ?_
  refine ax_topi (y := nI 2000) (by show (if nI 2000 < nI 2000 then nI 2000 else nI 2000) = nI 2000; decide) ?_
  refine ax_copyi dX3_takeAll_42 lkX3_48 cp_native cp_static cp_init ((ax_wr_ne (by omega)).trans (ej_8)) ((ax_wr_ne (by omega)).trans (ek_8)) (sp' := 0) (dp' := 0) (n' := 2000) (by decide) (by decide) (by decide) (by decide) (by decide) (by decide) (by omega) (by omega) rfl (Nat.le_of_ble_eq_true rfl) (by omega) ?_
  have z1 : ∀ i, i ≠ k + 7 → i ≠ k + 8 → (ax_wr (ax_wr h1 (k + 7) (eI 5 (va_cpy f7 g7 0 0 5))) (k + 8) (eI (40 * 50) (va_cpy f8 g8 0 0 2000))).2.2 i = h1.2.2 i := fun i z1 z2 => (ax_wr_ne z2).trans (ax_wr_ne z1)
  refine ax_return dX3_takeAll_45 rfl (hq _ (((hb.wide (fun i z => by omega)).wr (by omega)).wr (by omega)) ⟨(z1 _ (by omega) (by omega)).trans ek, t1.kept (z1 _ (by omega) (by omega)), t2.kept (z1 _ (by omega) (by omega)), t3.kept (z1 _ (by omega) (by omega)), t4.kept (z1 _ (by omega) (by omega)), ⟨g5, (z1 _ (by omega) (by omega)).trans t5, q5⟩, t6.kept (z1 _ (by omega) (by omega)), ⟨_, ((ax_wr_ne (by omega)).trans (ax_wr_eq)), cpyA (by omega) q7⟩, ⟨_, ax_wr_eq, fun y r s a1 a2 a3 a4 => (cpy0 ?_).trans (q8 y r s a1 a2 a3 a4)⟩⟩)
  have := hN.1
  have := hN.2.2.1
  omega
/-- the state with which a net begins -/
def s0 (H : Nat → Nat) : Sd := fun i j => if i = 1 then H j else 0
theorem flA {n m : Nat} {f : Nat → Int32} {v : Int32} {x : Nat → Nat} (hm : m ≤ n) (hv : ∀ j, v = nI (x j)) : ∀ j, j < m → fl n (fun _ => v) f j = nI (x j) := fun j hj => (fl_in (by omega)).trans (hv j)
theorem c_begin {k kp : Nat} {H : Nat → Nat} {st pl ro co hl : Int32} (hk : 106 ≤ k) (hkp : kp ≤ 40) (hN : nOK N) (hA : anSt h k kp) (e89 : h.2.2 89 = some (eNet 89 st pl ro co hl)) (hH : isA h 97 10 (nR N) H)
    (hq : ∀ h', But h h' (fun i => k ≤ i ∧ i ≤ k + 7) → StIs h' k kp N (s0 H) → Q (.inl none) h') : X G (d + 1) mX3_begin 0 (ax_in 2 [.ref k, .ref 89]) [] h Q := by
  obtain ⟨⟨y, ek⟩, ⟨g1, ek_1⟩, ⟨g2, ek_2⟩, ⟨g3, ek_3⟩, ⟨g4, ek_4⟩, ⟨g5, ek_5⟩, ⟨g6, ek_6⟩, ⟨g7, ek_7⟩, ⟨g8, ek_8⟩⟩ := hA
  obtain ⟨f1, e97, q1⟩ := hH
  have hR := hN.2.2.1
  refine ax_aload_n dX3_begin_0 rfl ?_
  refine ax_iconst dX3_begin_1 (v := nI 0) (by decide) ?_
  refine ax_putf dX3_begin_2 flX3_40 ek (Nat.le_of_ble_eq_true rfl) (fun _ => ⟨rfl, rfl⟩) ?_
  refine ax_aload_n dX3_begin_5 rfl ?_
  refine ax_getf dX3_begin_6 flX3_43 ((ax_wr_ne (by omega)).trans (e89)) rfl ?_
  refine ax_iconst dX3_begin_9 (v := nI 0) (by decide) ?_
  refine ax_aload_n dX3_begin_10 rfl ?_
  refine ax_getf dX3_begin_11 flX3_9 ax_wr_eq rfl ?_
  refine ax_iconst dX3_begin_14 (v := nI 0) (by decide) ?_
  refine ax_bipush dX3_begin_15 (v := nI 10) (by decide) ?_
  refine ax_copyi dX3_begin_17 lkX3_48 cp_native cp_static cp_init ((ax_wr_ne (by omega)).trans (e97)) ((ax_wr_ne (by omega)).trans (ek_1)) (sp' := 0) (dp' := 0) (n' := 10) (by decide) (by decide) (by decide) (by decide) (by decide) (by decide) (by omega) (by omega) rfl (Nat.le_of_ble_eq_true rfl) (by omega) ?_
  refine ax_aload_n dX3_begin_20 rfl ?_
  refine ax_getf dX3_begin_21 flX3_15 ((ax_wr_ne (by omega)).trans (ax_wr_eq)) rfl ?_
  refine ax_iconst dX3_begin_24 (v := nI 0) (by decide) ?_
  refine ax_cS dX3_begin_25 mmJ7_fill_53178 lkX3_54 mtJ7_fill_53178 rfl rfl (Nat.le_of_ble_eq_true rfl) (Nat.le_of_ble_eq_true rfl) rfl rfl (c_fill (by decide) ((ax_wr_ne (by omega)).trans ((ax_wr_ne (by omega)).trans (ek_2))) ⟨_, rfl, ?_⟩)
  refine ax_aload_n dX3_begin_28 rfl ?_
  refine ax_getf dX3_begin_29 flX3_18 ((ax_wr_ne (by omega)).trans ((ax_wr_ne (by omega)).trans (ax_wr_eq))) rfl ?_
  refine ax_iconst dX3_begin_32 (v := nI 0) (by decide) ?_
  refine ax_cS dX3_begin_33 mmJ7_fill_53178 lkX3_54 mtJ7_fill_53178 rfl rfl (Nat.le_of_ble_eq_true rfl) (Nat.le_of_ble_eq_true rfl) rfl rfl (c_fill (by decide) ((ax_wr_ne (by omega)).trans ((ax_wr_ne (by omega)).trans ((ax_wr_ne (by omega)).trans (ek_3)))) ⟨_, rfl, ?_⟩)
  refine ax_aload_n dX3_begin_36 rfl ?_
  refine ax_getf dX3_begin_37 flX3_21 ((ax_wr_ne (by omega)).trans ((ax_wr_ne (by omega)).trans ((ax_wr_ne (by omega)).trans (ax_wr_eq)))) rfl ?_
  refine ax_iconst dX3_begin_40 (v := nI 0) (by decide) ?_
  refine ax_cS dX3_begin_41 mmJ7_fill_53178 lkX3_54 mtJ7_fill_53178 rfl rfl (Nat.le_of_ble_eq_true rfl) (Nat.le_of_ble_eq_true rfl) rfl rfl (c_fill (by decide) ((ax_wr_ne (by omega)).trans ((ax_wr_ne (by omega)).trans ((ax_wr_ne (by omega)).trans ((ax_wr_ne (by omega)).trans (ek_4))))) ⟨_, rfl, ?_⟩)
  refine ax_aload_n dX3_begin_44 rfl ?_
  refine ax_getf dX3_begin_45 flX3_24 ((ax_wr_ne (by omega)).trans ((ax_wr_ne (by omega)).trans ((ax_wr_ne (by omega)).trans ((ax_wr_ne (by omega)).trans (ax_wr_eq))))) rfl ?_
  refine ax_iconst dX3_begin_48 (v := -1) (by decide) ?_
  refine ax_cS dX3_begin_49 mmJ7_fill_53178 lkX3_54 mtJ7_fill_53178 rfl rfl (Nat.le_of_ble_eq_true rfl) (Nat.le_of_ble_eq_true rfl) rfl rfl (c_fill (by decide) ((ax_wr_ne (by omega)).trans ((ax_wr_ne (by omega)).trans ((ax_wr_ne (by omega)).trans ((ax_wr_ne (by omega)).trans ((ax_wr_ne (by omega)).trans (ek_5)))))) ⟨_, rfl, ?_⟩)
  refine ax_aload_n dX3_begin_52 rfl ?_
  refine ax_getf dX3_begin_53 flX3_27 ((ax_wr_ne (by omega)).trans ((ax_wr_ne (by omega)).trans ((ax_wr_ne (by omega)).trans ((ax_wr_ne (by omega)).trans ((ax_wr_ne (by omega)).trans (ax_wr_eq)))))) rfl ?_
  refine ax_iconst dX3_begin_56 (v := nI 0) (by decide) ?_
  refine ax_cS dX3_begin_57 mmJ7_fill_53178 lkX3_54 mtJ7_fill_53178 rfl rfl (Nat.le_of_ble_eq_true rfl) (Nat.le_of_ble_eq_true rfl) rfl rfl (c_fill (by decide) ((ax_wr_ne (by omega)).trans ((ax_wr_ne (by omega)).trans ((ax_wr_ne (by omega)).trans ((ax_wr_ne (by omega)).trans ((ax_wr_ne (by omega)).trans ((ax_wr_ne (by omega)).trans (ek_6))))))) ⟨_, rfl, ?_⟩)
  refine ax_aload_n dX3_begin_60 rfl ?_
  refine ax_getf dX3_begin_61 flX3_30 ((ax_wr_ne (by omega)).trans ((ax_wr_ne (by omega)).trans ((ax_wr_ne (by omega)).trans ((ax_wr_ne (by omega)).trans ((ax_wr_ne (by omega)).trans ((ax_wr_ne (by omega)).trans (ax_wr_eq))))))) rfl ?_
  refine ax_iconst dX3_begin_64 (v := nI 0) (by decide) ?_
  refine ax_cS dX3_begin_65 mmJ7_fill_53178 lkX3_54 mtJ7_fill_53178 rfl rfl (Nat.le_of_ble_eq_true rfl) (Nat.le_of_ble_eq_true rfl) rfl rfl (c_fill (by decide) ((ax_wr_ne (by omega)).trans ((ax_wr_ne (by omega)).trans ((ax_wr_ne (by omega)).trans ((ax_wr_ne (by omega)).trans ((ax_wr_ne (by omega)).trans ((ax_wr_ne (by omega)).trans ((ax_wr_ne (by omega)).trans (ek_7)))))))) ⟨_, rfl, ?_⟩)
  refine ax_return dX3_begin_68 rfl (hq _ ((((((((But.rf.wr (by omega)).wr (by omega)).wr (by omega)).wr (by omega)).wr (by omega)).wr (by omega)).wr (by omega)).wr (by omega)) ⟨((ax_wr_ne (by omega)).trans ((ax_wr_ne (by omega)).trans ((ax_wr_ne (by omega)).trans ((ax_wr_ne (by omega)).trans ((ax_wr_ne (by omega)).trans ((ax_wr_ne (by omega)).trans ((ax_wr_ne (by omega)).trans (ax_wr_eq)))))))), ⟨_, ((ax_wr_ne (by omega)).trans ((ax_wr_ne (by omega)).trans ((ax_wr_ne (by omega)).trans ((ax_wr_ne (by omega)).trans ((ax_wr_ne (by omega)).trans ((ax_wr_ne (by omega)).trans (ax_wr_eq))))))), cpyA (by omega) q1⟩, ⟨_, ((ax_wr_ne (by omega)).trans ((ax_wr_ne (by omega)).trans ((ax_wr_ne (by omega)).trans ((ax_wr_ne (by omega)).trans ((ax_wr_ne (by omega)).trans (ax_wr_eq)))))), flA (by omega) (fun _ => rfl)⟩, ⟨_, ((ax_wr_ne (by omega)).trans ((ax_wr_ne (by omega)).trans ((ax_wr_ne (by omega)).trans ((ax_wr_ne (by omega)).trans (ax_wr_eq))))), flA (by omega) (fun _ => rfl)⟩, ⟨_, ((ax_wr_ne (by omega)).trans ((ax_wr_ne (by omega)).trans ((ax_wr_ne (by omega)).trans (ax_wr_eq)))), flA (by omega) (fun _ => rfl)⟩, ⟨_, ((ax_wr_ne (by omega)).trans ((ax_wr_ne (by omega)).trans (ax_wr_eq))), fun t ht => (fl_in ht).trans (by show (-1 : Int32) = nI 0 - nI 1; decide)⟩, ⟨_, ((ax_wr_ne (by omega)).trans (ax_wr_eq)), flA (by omega) (fun _ => rfl)⟩, ⟨_, ax_wr_eq, flA (by omega) (fun _ => rfl)⟩, ⟨_, ((ax_wr_ne (by omega)).trans ((ax_wr_ne (by omega)).trans ((ax_wr_ne (by omega)).trans ((ax_wr_ne (by omega)).trans ((ax_wr_ne (by omega)).trans ((ax_wr_ne (by omega)).trans ((ax_wr_ne (by omega)).trans ((ax_wr_ne (by omega)).trans (ek_8))))))))), fun y r s a1 => absurd a1 (Nat.not_lt_zero _)⟩⟩)
theorem c_trTake {k j T : Nat} {tr : Nat → Nat → Nat} (hkj : k + 4 < j ∨ j + 4 < k) (hT6 : T ≤ 6) (hA : anTr h k) (hE : TrIs h j T tr)
    (hq : ∀ h', But h h' (fun i => k ≤ i ∧ i ≤ k + 4) → TrIs h' k T tr → Q (.inl none) h') : X G (d + 1) mX8_take 0 (ax_in 2 [.ref k, .ref j]) [] h Q := by
  obtain ⟨⟨y, ek⟩, ⟨g1, ek_1⟩, ⟨g2, ek_2⟩, ⟨g3, ek_3⟩, ⟨g4, ek_4⟩⟩ := hA
  obtain ⟨ej, ⟨f1, ej_1, q1⟩, ⟨f2, ej_2, q2⟩, ⟨f3, ej_3, q3⟩, ⟨f4, ej_4, q4⟩⟩ := hE
  refine ax_aload_n dX8_take_0 rfl ?_
  refine ax_aload_n dX8_take_1 rfl ?_
  refine ax_getf dX8_take_2 flX8_24 ej rfl ?_
  refine ax_putf dX8_take_5 flX8_24 ek (Nat.le_of_ble_eq_true rfl) (fun _ => ⟨rfl, rfl⟩) ?_
  refine ax_aload_n dX8_take_8 rfl ?_
  refine ax_getf dX8_take_9 flX8_9 ((ax_wr_ne (by omega)).trans (ej)) rfl ?_
  refine ax_iconst dX8_take_12 (v := nI 0) (by decide) ?_
  refine ax_aload_n dX8_take_13 rfl ?_
  refine ax_getf dX8_take_14 flX8_9 ax_wr_eq rfl ?_
  refine ax_iconst dX8_take_17 (v := nI 0) (by decide) ?_
  refine ax_bipush dX8_take_18 (v := nI 6) (by decide) ?_
  refine ax_copyi dX8_take_20 lkX8_28 cp_native cp_static cp_init ((ax_wr_ne (by omega)).trans (ej_1)) ((ax_wr_ne (by omega)).trans (ek_1)) (sp' := 0) (dp' := 0) (n' := 6) (by decide) (by decide) (by decide) (by decide) (by decide) (by decide) (by omega) (by omega) rfl (Nat.le_of_ble_eq_true rfl) (by omega) ?_
  refine ax_aload_n dX8_take_23 rfl ?_
  refine ax_getf dX8_take_24 flX8_15 ((ax_wr_ne (by omega)).trans ((ax_wr_ne (by omega)).trans (ej))) rfl ?_
  refine ax_iconst dX8_take_27 (v := nI 0) (by decide) ?_
  refine ax_aload_n dX8_take_28 rfl ?_
  refine ax_getf dX8_take_29 flX8_15 ((ax_wr_ne (by omega)).trans (ax_wr_eq)) rfl ?_
  refine ax_iconst dX8_take_32 (v := nI 0) (by decide) ?_
  refine ax_bipush dX8_take_33 (v := nI 6) (by decide) ?_
  refine ax_copyi dX8_take_35 lkX8_28 cp_native cp_static cp_init ((ax_wr_ne (by omega)).trans ((ax_wr_ne (by omega)).trans (ej_2))) ((ax_wr_ne (by omega)).trans ((ax_wr_ne (by omega)).trans (ek_2))) (sp' := 0) (dp' := 0) (n' := 6) (by decide) (by decide) (by decide) (by decide) (by decide) (by decide) (by omega) (by omega) rfl (Nat.le_of_ble_eq_true rfl) (by omega) ?_
  refine ax_aload_n dX8_take_38 rfl ?_
  refine ax_getf dX8_take_39 flX8_18 ((ax_wr_ne (by omega)).trans ((ax_wr_ne (by omega)).trans ((ax_wr_ne (by omega)).trans (ej)))) rfl ?_
  refine ax_iconst dX8_take_42 (v := nI 0) (by decide) ?_
  refine ax_aload_n dX8_take_43 rfl ?_
  refine ax_getf dX8_take_44 flX8_18 ((ax_wr_ne (by omega)).trans ((ax_wr_ne (by omega)).trans (ax_wr_eq))) rfl ?_
  refine ax_iconst dX8_take_47 (v := nI 0) (by decide) ?_
  refine ax_bipush dX8_take_48 (v := nI 6) (by decide) ?_
  refine ax_copyi dX8_take_50 lkX8_28 cp_native cp_static cp_init ((ax_wr_ne (by omega)).trans ((ax_wr_ne (by omega)).trans ((ax_wr_ne (by omega)).trans (ej_3)))) ((ax_wr_ne (by omega)).trans ((ax_wr_ne (by omega)).trans ((ax_wr_ne (by omega)).trans (ek_3)))) (sp' := 0) (dp' := 0) (n' := 6) (by decide) (by decide) (by decide) (by decide) (by decide) (by decide) (by omega) (by omega) rfl (Nat.le_of_ble_eq_true rfl) (by omega) ?_
  refine ax_aload_n dX8_take_53 rfl ?_
  refine ax_getf dX8_take_54 flX8_21 ((ax_wr_ne (by omega)).trans ((ax_wr_ne (by omega)).trans ((ax_wr_ne (by omega)).trans ((ax_wr_ne (by omega)).trans (ej))))) rfl ?_
  refine ax_iconst dX8_take_57 (v := nI 0) (by decide) ?_
  refine ax_aload_n dX8_take_58 rfl ?_
  refine ax_getf dX8_take_59 flX8_21 ((ax_wr_ne (by omega)).trans ((ax_wr_ne (by omega)).trans ((ax_wr_ne (by omega)).trans (ax_wr_eq)))) rfl ?_
  refine ax_iconst dX8_take_62 (v := nI 0) (by decide) ?_
  refine ax_bipush dX8_take_63 (v := nI 6) (by decide) ?_
  refine ax_copyi dX8_take_65 lkX8_28 cp_native cp_static cp_init ((ax_wr_ne (by omega)).trans ((ax_wr_ne (by omega)).trans ((ax_wr_ne (by omega)).trans ((ax_wr_ne (by omega)).trans (ej_4))))) ((ax_wr_ne (by omega)).trans ((ax_wr_ne (by omega)).trans ((ax_wr_ne (by omega)).trans ((ax_wr_ne (by omega)).trans (ek_4))))) (sp' := 0) (dp' := 0) (n' := 6) (by decide) (by decide) (by decide) (by decide) (by decide) (by decide) (by omega) (by omega) rfl (Nat.le_of_ble_eq_true rfl) (by omega) ?_
  refine ax_return dX8_take_68 rfl (hq _ (((((But.rf.wr (by omega)).wr (by omega)).wr (by omega)).wr (by omega)).wr (by omega)) ⟨((ax_wr_ne (by omega)).trans ((ax_wr_ne (by omega)).trans ((ax_wr_ne (by omega)).trans ((ax_wr_ne (by omega)).trans (ax_wr_eq))))), ⟨_, ((ax_wr_ne (by omega)).trans ((ax_wr_ne (by omega)).trans ((ax_wr_ne (by omega)).trans (ax_wr_eq)))), cpyA (by omega) q1⟩, ⟨_, ((ax_wr_ne (by omega)).trans ((ax_wr_ne (by omega)).trans (ax_wr_eq))), cpyA (by omega) q2⟩, ⟨_, ((ax_wr_ne (by omega)).trans (ax_wr_eq)), cpyA (by omega) q3⟩, ⟨_, ax_wr_eq, cpyA (by omega) q4⟩⟩)
theorem c_allCarry {k T s : Nat} {tr : Nat → Nat → Nat} (hT6 : T ≤ 6) (hE : TrIs h k T tr)
    (hq : ∀ h', But h h' (fun i => i = k + 3) → TrIs h' k T (fun i t => if i = 2 then s else tr i t) → Q (.inl none) h') : X G (d + 1) mX8_allCarry 0 (ax_in 2 [.ref k, .int (nI s)]) [] h Q := by
  obtain ⟨ek, a1, a2, ⟨f3, ek_3, q3⟩, a4⟩ := hE
  refine ax_aload_n dX8_allCarry_0 rfl ?_
  refine ax_getf dX8_allCarry_1 flX8_18 ek rfl ?_
  refine ax_iload_n dX8_allCarry_4 rfl ?_
  refine ax_cS dX8_allCarry_5 mmJ7_fill_53178 lkX8_34 mtJ7_fill_53178 rfl rfl (Nat.le_of_ble_eq_true rfl) (Nat.le_of_ble_eq_true rfl) rfl rfl (c_fill (by decide) ek_3 ⟨_, rfl, ?_⟩)
  refine ax_return dX8_allCarry_8 rfl (hq _ (But.rf.wr rfl) ⟨((ax_wr_ne (by omega)).trans (ek)), a1.kept (ax_wr_ne (by omega)), a2.kept (ax_wr_ne (by omega)), ⟨_, ax_wr_eq, flA (by omega) (fun _ => rfl)⟩, a4.kept (ax_wr_ne (by omega))⟩)
/-- a trade more -/
def trA (tr : Nat → Nat → Nat) (T a b s l : Nat) : Nat → Nat → Nat := fun i t => if t = T then (if i = 0 then a else if i = 1 then b else if i = 2 then s else l) else tr i t
theorem trA_u {f : Nat → Int32} {tr : Nat → Nat → Nat} {T a b s l i x : Nat} (hf : ∀ j, j < T → f j = nI (tr i j)) (hx : x = if i = 0 then a else if i = 1 then b else if i = 2 then s else l) : ∀ j, j < T + 1 → upd f T (nI x) j = nI (trA tr T a b s l i j) := fun j hj => by
  unfold trA upd
  by_cases hjt : j = T
  · rw [if_pos hjt, if_pos hjt, hx]
  · rw [if_neg hjt, if_neg hjt, hf j (by omega)]
theorem c_trAdd {k T a b s l : Nat} {tr : Nat → Nat → Nat} (hT6 : T < 6) (hE : TrIs h k T tr)
    (hq : ∀ h', But h h' (fun i => k ≤ i ∧ i ≤ k + 4) → TrIs h' k (T + 1) (trA tr T a b s l) → Q (.inl none) h') : X G d mX8_add 0 (ax_in 5 [.ref k, .int (nI a), .int (nI b), .int (nI s), .int (nI l)]) [] h Q := by
  obtain ⟨ek, ⟨f1, ek_1, q1⟩, ⟨f2, ek_2, q2⟩, ⟨f3, ek_3, q3⟩, ⟨f4, ek_4, q4⟩⟩ := hE
  refine ax_aload_n dX8_add_0 rfl ?_
  refine ax_getf dX8_add_1 flX8_24 ek rfl ?_
  refine ax_bipush dX8_add_4 (v := nI 6) (by decide) ?_
  refine ax_icmp_geF 60 dX8_add_6 (by decide) (nI_ge (by omega) (by omega)) ?_
  refine ax_aload_n dX8_add_9 rfl ?_
  refine ax_getf dX8_add_10 flX8_9 ek rfl ?_
  refine ax_aload_n dX8_add_13 rfl ?_
  refine ax_getf dX8_add_14 flX8_24 ek rfl ?_
  refine ax_iload_n dX8_add_17 rfl ?_
  refine ax_iast dX8_add_18 ek_1 (ax_ix_nI (by omega) (by decide)) ?_
  refine ax_aload_n dX8_add_19 rfl ?_
  refine ax_getf dX8_add_20 flX8_15 ((ax_wr_ne (by omega)).trans (ek)) rfl ?_
  refine ax_aload_n dX8_add_23 rfl ?_
  refine ax_getf dX8_add_24 flX8_24 ((ax_wr_ne (by omega)).trans (ek)) rfl ?_
  refine ax_iload_n dX8_add_27 rfl ?_
  refine ax_iast dX8_add_28 ((ax_wr_ne (by omega)).trans (ek_2)) (ax_ix_nI (by omega) (by decide)) ?_
  refine ax_aload_n dX8_add_29 rfl ?_
  refine ax_getf dX8_add_30 flX8_18 ((ax_wr_ne (by omega)).trans ((ax_wr_ne (by omega)).trans (ek))) rfl ?_
  refine ax_aload_n dX8_add_33 rfl ?_
  refine ax_getf dX8_add_34 flX8_24 ((ax_wr_ne (by omega)).trans ((ax_wr_ne (by omega)).trans (ek))) rfl ?_
  refine ax_iload_n dX8_add_37 rfl ?_
  refine ax_iast dX8_add_38 ((ax_wr_ne (by omega)).trans ((ax_wr_ne (by omega)).trans (ek_3))) (ax_ix_nI (by omega) (by decide)) ?_
  refine ax_aload_n dX8_add_39 rfl ?_
  refine ax_getf dX8_add_40 flX8_21 ((ax_wr_ne (by omega)).trans ((ax_wr_ne (by omega)).trans ((ax_wr_ne (by omega)).trans (ek)))) rfl ?_
  refine ax_aload_n dX8_add_43 rfl ?_
  refine ax_getf dX8_add_44 flX8_24 ((ax_wr_ne (by omega)).trans ((ax_wr_ne (by omega)).trans ((ax_wr_ne (by omega)).trans (ek)))) rfl ?_
  refine ax_iload dX8_add_47 rfl ?_
  refine ax_iast dX8_add_49 ((ax_wr_ne (by omega)).trans ((ax_wr_ne (by omega)).trans ((ax_wr_ne (by omega)).trans (ek_4)))) (ax_ix_nI (by omega) (by decide)) ?_
  refine ax_aload_n dX8_add_50 rfl ?_
  refine ax_dup dX8_add_51 rfl ?_
  refine ax_getf dX8_add_52 flX8_24 ((ax_wr_ne (by omega)).trans ((ax_wr_ne (by omega)).trans ((ax_wr_ne (by omega)).trans ((ax_wr_ne (by omega)).trans (ek))))) rfl ?_
  refine ax_iconst dX8_add_55 (v := nI 1) (by decide) ?_
  refine ax_iadd dX8_add_56 ?_
  refine ax_putf dX8_add_57 flX8_24 ((ax_wr_ne (by omega)).trans ((ax_wr_ne (by omega)).trans ((ax_wr_ne (by omega)).trans ((ax_wr_ne (by omega)).trans (ek))))) (Nat.le_of_ble_eq_true rfl) (fun _ => ⟨rfl, rfl⟩) ?_
  rw [nI_add]
  refine ax_return dX8_add_60 rfl (hq _ (((((But.rf.wr (by omega)).wr (by omega)).wr (by omega)).wr (by omega)).wr (by omega)) ⟨ax_wr_eq, ⟨_, ((ax_wr_ne (by omega)).trans ((ax_wr_ne (by omega)).trans ((ax_wr_ne (by omega)).trans ((ax_wr_ne (by omega)).trans (ax_wr_eq))))), trA_u q1 rfl⟩, ⟨_, ((ax_wr_ne (by omega)).trans ((ax_wr_ne (by omega)).trans ((ax_wr_ne (by omega)).trans (ax_wr_eq)))), trA_u q2 rfl⟩, ⟨_, ((ax_wr_ne (by omega)).trans ((ax_wr_ne (by omega)).trans (ax_wr_eq))), trA_u q3 rfl⟩, ⟨_, ((ax_wr_ne (by omega)).trans (ax_wr_eq)), trA_u q4 rfl⟩⟩)
end CP
