section NE2
variable {G : ax_G} {d : Nat} {h : ax_H} {Q : ax_O → ax_H → Prop}
variable {N : Nt} {H : Nat → Nat} {sn pn : Nat → Int64} {cs : List Nat} {lb le : Nat → Nat} {hl : Int32}
/-- a net's tables with one more stuff, place, road, trade -/
def nUp (N : Nt) (i k v : Nat) : Nt := (fun a b => if a = i then upN (N.1 i) k v b else N.1 a b, N.2)
def nStuff (N : Nt) (x y : Nat) : Nt := (fun a b => if a = 0 then (if b = 0 then N.1 0 0 + 1 else N.1 0 b) else if a = 1 then upN (N.1 1) (N.1 0 0) x b else if a = 2 then upN (N.1 2) (N.1 0 0) y b else N.1 a b, N.2)
def nPlace (N : Nt) : Nt := (fun a b => if a = 0 then (if b = 1 then N.1 0 1 + 1 else N.1 0 b) else N.1 a b, N.2)
def nRoad (N : Nt) (x y z : Nat) : Nt := (fun a b => if a = 0 then (if b = 2 then N.1 0 2 + 1 else N.1 0 b) else if a = 3 then upN (N.1 3) (N.1 0 2) x b else if a = 4 then upN (N.1 4) (N.1 0 2) y b else if a = 5 then upN (N.1 5) (N.1 0 2) z b else N.1 a b, N.2)
def nTrade (N : Nt) (x y s l : Nat) : Nt := (fun a b => if a = 0 then (if b = 3 then N.1 0 3 + 1 else N.1 0 b) else if a = 6 then upN (N.1 6) (N.1 0 3) x b else if a = 7 then upN (N.1 7) (N.1 0 3) y b else if a = 8 then upN (N.1 8) (N.1 0 3) s b else if a = 9 then upN (N.1 9) (N.1 0 3) l b else N.1 a b, N.2)
def upJ (f : Nat → Int64) (k : Nat) (v : Int64) : Nat → Int64 := fun j => if j = k then v else f j
theorem upJ_k {f g : Nat → Int64} {n : Nat} {v : Int64} (hf : ∀ j, j < n → f j = g j) : ∀ j, j < n + 1 → vp_updL f n v j = upJ g n v j := fun j hj => by
  unfold vp_updL upJ
  by_cases hc : j = n
  · rw [if_pos hc, if_pos hc]
  · rw [if_neg hc, if_neg hc]; exact hf j (by omega)
theorem isA_ap {n : Nat} {g : Nat → Nat} {f : Nat → Int32} {v : Nat} (hf : ∀ j, j < n → f j = nI (g j)) : ∀ j, j < n + 1 → upd f n (nI v) j = nI (upN g n v j) := fun j hj => by
  unfold upd upN
  by_cases hc : j = n
  · rw [if_pos hc, if_pos hc]
  · rw [if_neg hc, if_neg hc]; exact hf j (by omega)
theorem c_addStuff {v : Int64} {x y : Nat} (hS : nS N < 5) (hD : Dr h N H sn pn cs lb le hl) (hq : ∀ h', But h h' (fun j => 71 ≤ j ∧ j ≤ 75) → Dr h' (nStuff N x y) H (upJ sn (nS N) v) pn cs lb le hl → Q (.inl none) h') : X G d mX1_addStuff 0 (ax_in 5 [.ref 71, .long v, .int (nI x), .int (nI y)]) [] h Q := by
  obtain ⟨e71, ⟨f1, e72, q1⟩, ⟨f2, e73, q2⟩, ⟨f3, e74, q3⟩, ⟨f4, e75, q4⟩, a3, a4, a5, a6, a7, ⟨C, e85, q5⟩, a8, a9, a10⟩ := id hD
  refine ax_aload_n dX1_addStuff_0 rfl ?_
  refine ax_getf dX1_addStuff_1 flX1_55 e71 rfl ?_
  refine ax_iconst dX1_addStuff_4 (v := nI 5) (by decide) ?_
  refine ax_icmp_geF 49 dX1_addStuff_5 (by decide) (nI_ge hS (by omega)) ?_
  refine ax_aload_n dX1_addStuff_8 rfl ?_
  refine ax_getf dX1_addStuff_9 flX1_11 e71 rfl ?_
  refine ax_aload_n dX1_addStuff_12 rfl ?_
  refine ax_getf dX1_addStuff_13 flX1_55 e71 rfl ?_
  refine ax_lload_n dX1_addStuff_16 rfl ?_
  refine ax_last dX1_addStuff_17 e72 (ax_ix_nI hS (by decide)) ?_
  refine ax_aload_n dX1_addStuff_18 rfl ?_
  refine ax_getf dX1_addStuff_19 flX1_20 ((ax_wr_ne (by decide)).trans (e71)) rfl ?_
  refine ax_aload_n dX1_addStuff_22 rfl ?_
  refine ax_getf dX1_addStuff_23 flX1_55 ((ax_wr_ne (by decide)).trans (e71)) rfl ?_
  refine ax_iload_n dX1_addStuff_26 rfl ?_
  refine ax_iast dX1_addStuff_27 ((ax_wr_ne (by decide)).trans (e74)) (ax_ix_nI hS (by decide)) ?_
  refine ax_aload_n dX1_addStuff_28 rfl ?_
  refine ax_getf dX1_addStuff_29 flX1_24 ((ax_wr_ne (by decide)).trans ((ax_wr_ne (by decide)).trans (e71))) rfl ?_
  refine ax_aload_n dX1_addStuff_32 rfl ?_
  refine ax_getf dX1_addStuff_33 flX1_55 ((ax_wr_ne (by decide)).trans ((ax_wr_ne (by decide)).trans (e71))) rfl ?_
  refine ax_iload dX1_addStuff_36 rfl ?_
  refine ax_iast dX1_addStuff_38 ((ax_wr_ne (by decide)).trans ((ax_wr_ne (by decide)).trans (e75))) (ax_ix_nI hS (by decide)) ?_
  refine ax_aload_n dX1_addStuff_39 rfl ?_
  refine ax_dup dX1_addStuff_40 rfl ?_
  refine ax_getf dX1_addStuff_41 flX1_55 ((ax_wr_ne (by decide)).trans ((ax_wr_ne (by decide)).trans ((ax_wr_ne (by decide)).trans (e71)))) rfl ?_
  refine ax_iconst dX1_addStuff_44 (v := nI 1) (by decide) ?_
  refine ax_iadd dX1_addStuff_45 ?_
  refine ax_putf dX1_addStuff_46 flX1_55 ((ax_wr_ne (by decide)).trans ((ax_wr_ne (by decide)).trans ((ax_wr_ne (by decide)).trans (e71)))) (Nat.le_of_ble_eq_true rfl) (fun _ => ⟨rfl, rfl⟩) ?_
  rw [nI_add]
  have kp : ∀ (x1 x2 x3 x4 : ax_E) j, j ≠ 71 → j ≠ 72 → j ≠ 74 → j ≠ 75 → (ax_wr (ax_wr (ax_wr (ax_wr h 72 x1) 74 x2) 75 x3) 71 x4).2.2 j = h.2.2 j := fun x1 x2 x3 x4 j z1 z2 z3 z4 => (ax_wr_ne z1).trans ((ax_wr_ne z4).trans ((ax_wr_ne z3).trans (ax_wr_ne z2)))
  refine ax_return dX1_addStuff_49 rfl (hq _ ((((But.rf.wr (by omega)).wr (by omega)).wr (by omega)).wr (by omega)) ⟨ax_wr_eq, ⟨_, ((ax_wr_ne (by decide)).trans ((ax_wr_ne (by decide)).trans ((ax_wr_ne (by decide)).trans (ax_wr_eq)))), upJ_k q1⟩, ⟨f2, ((ax_wr_ne (by decide)).trans ((ax_wr_ne (by decide)).trans ((ax_wr_ne (by decide)).trans ((ax_wr_ne (by decide)).trans (e73))))), q2⟩, ⟨_, ((ax_wr_ne (by decide)).trans ((ax_wr_ne (by decide)).trans (ax_wr_eq))), isA_up q3⟩, ⟨_, ((ax_wr_ne (by decide)).trans (ax_wr_eq)), isA_up q4⟩, a3.kept (kp _ _ _ _ _ (by decide) (by decide) (by decide) (by decide)), a4.kept (kp _ _ _ _ _ (by decide) (by decide) (by decide) (by decide)), a5.kept (kp _ _ _ _ _ (by decide) (by decide) (by decide) (by decide)), a6.kept (kp _ _ _ _ _ (by decide) (by decide) (by decide) (by decide)), a7.kept (fun j z1 z2 => kp _ _ _ _ j (by omega) (by omega) (by omega) (by omega)), ⟨C, ((ax_wr_ne (by decide)).trans ((ax_wr_ne (by decide)).trans ((ax_wr_ne (by decide)).trans ((ax_wr_ne (by decide)).trans (e85))))), q5⟩, a8.kept (kp _ _ _ _ _ (by decide) (by decide) (by decide) (by decide)), a9.kept (kp _ _ _ _ _ (by decide) (by decide) (by decide) (by decide)), a10⟩)
theorem c_addPlace {v : Int64} (hS : nP N < 7) (hD : Dr h N H sn pn cs lb le hl) (hq : ∀ h', But h h' (fun j => 71 ≤ j ∧ j ≤ 75) → Dr h' (nPlace N) H sn (upJ pn (nP N) v) cs lb le hl → Q (.inl none) h') : X G d mX1_addPlace 0 (ax_in 3 [.ref 71, .long v]) [] h Q := by
  obtain ⟨e71, ⟨f1, e72, q1⟩, ⟨f2, e73, q2⟩, a1, a2, a3, a4, a5, a6, a7, ⟨C, e85, q5⟩, a8, a9, a10⟩ := id hD
  refine ax_aload_n dX1_addPlace_0 rfl ?_
  refine ax_getf dX1_addPlace_1 flX1_59 e71 rfl ?_
  refine ax_bipush dX1_addPlace_4 (v := nI 7) (by decide) ?_
  refine ax_icmp_geF 29 dX1_addPlace_6 (by decide) (nI_ge hS (by omega)) ?_
  refine ax_aload_n dX1_addPlace_9 rfl ?_
  refine ax_getf dX1_addPlace_10 flX1_17 e71 rfl ?_
  refine ax_aload_n dX1_addPlace_13 rfl ?_
  refine ax_getf dX1_addPlace_14 flX1_59 e71 rfl ?_
  refine ax_lload_n dX1_addPlace_17 rfl ?_
  refine ax_last dX1_addPlace_18 e73 (ax_ix_nI hS (by decide)) ?_
  refine ax_aload_n dX1_addPlace_19 rfl ?_
  refine ax_dup dX1_addPlace_20 rfl ?_
  refine ax_getf dX1_addPlace_21 flX1_59 ((ax_wr_ne (by decide)).trans (e71)) rfl ?_
  refine ax_iconst dX1_addPlace_24 (v := nI 1) (by decide) ?_
  refine ax_iadd dX1_addPlace_25 ?_
  refine ax_putf dX1_addPlace_26 flX1_59 ((ax_wr_ne (by decide)).trans (e71)) (Nat.le_of_ble_eq_true rfl) (fun _ => ⟨rfl, rfl⟩) ?_
  rw [nI_add]
  have kp : ∀ (x1 x4 : ax_E) j, j ≠ 71 → j ≠ 73 → (ax_wr (ax_wr h 73 x1) 71 x4).2.2 j = h.2.2 j := fun x1 x4 j z1 z2 => (ax_wr_ne z1).trans (ax_wr_ne z2)
  refine ax_return dX1_addPlace_29 rfl (hq _ ((But.rf.wr (by omega)).wr (by omega)) ⟨ax_wr_eq, ⟨f1, ((ax_wr_ne (by decide)).trans ((ax_wr_ne (by decide)).trans (e72))), q1⟩, ⟨_, ((ax_wr_ne (by decide)).trans (ax_wr_eq)), upJ_k q2⟩, a1.kept (kp _ _ _ (by decide) (by decide)), a2.kept (kp _ _ _ (by decide) (by decide)), a3.kept (kp _ _ _ (by decide) (by decide)), a4.kept (kp _ _ _ (by decide) (by decide)), a5.kept (kp _ _ _ (by decide) (by decide)), a6.kept (kp _ _ _ (by decide) (by decide)), a7.kept (fun j z1 z2 => kp _ _ j (by omega) (by omega)), ⟨C, ((ax_wr_ne (by decide)).trans ((ax_wr_ne (by decide)).trans (e85))), q5⟩, a8.kept (kp _ _ _ (by decide) (by decide)), a9.kept (kp _ _ _ (by decide) (by decide)), a10⟩)
theorem c_addRoad {x y z w : Nat} (hS : nR N < 10) (hD : Dr h N H sn pn cs lb le hl) (hq : ∀ h', But h h' (fun j => 71 ≤ j ∧ j ≤ 79) → Dr h' (nRoad N x y z) (upN H (nR N) w) sn pn cs lb le hl → Q (.inl none) h') : X G d mX1_addRoad 0 (ax_in 5 [.ref 71, .int (nI x), .int (nI y), .int (nI z), .int (nI w)]) [] h Q := by
  obtain ⟨e71, ⟨f1, e72, q1⟩, ⟨f2, e73, q2⟩, a1, a2, ⟨f3, e76, q3⟩, ⟨f4, e77, q4⟩, ⟨f5, e78, q5⟩, ⟨f6, e79, q6⟩, a7, ⟨C, e85, q7⟩, a8, a9, a10⟩ := id hD
  refine ax_aload_n dX1_addRoad_0 rfl ?_
  refine ax_getf dX1_addRoad_1 flX1_62 e71 rfl ?_
  refine ax_bipush dX1_addRoad_4 (v := nI 10) (by decide) ?_
  refine ax_icmp_geF 60 dX1_addRoad_6 (by decide) (nI_ge hS (by omega)) ?_
  refine ax_aload_n dX1_addRoad_9 rfl ?_
  refine ax_getf dX1_addRoad_10 flX1_27 e71 rfl ?_
  refine ax_aload_n dX1_addRoad_13 rfl ?_
  refine ax_getf dX1_addRoad_14 flX1_62 e71 rfl ?_
  refine ax_iload_n dX1_addRoad_17 rfl ?_
  refine ax_iast dX1_addRoad_18 e76 (ax_ix_nI hS (by decide)) ?_
  refine ax_aload_n dX1_addRoad_19 rfl ?_
  refine ax_getf dX1_addRoad_20 flX1_30 ((ax_wr_ne (by decide)).trans (e71)) rfl ?_
  refine ax_aload_n dX1_addRoad_23 rfl ?_
  refine ax_getf dX1_addRoad_24 flX1_62 ((ax_wr_ne (by decide)).trans (e71)) rfl ?_
  refine ax_iload_n dX1_addRoad_27 rfl ?_
  refine ax_iast dX1_addRoad_28 ((ax_wr_ne (by decide)).trans (e77)) (ax_ix_nI hS (by decide)) ?_
  refine ax_aload_n dX1_addRoad_29 rfl ?_
  refine ax_getf dX1_addRoad_30 flX1_33 ((ax_wr_ne (by decide)).trans ((ax_wr_ne (by decide)).trans (e71))) rfl ?_
  refine ax_aload_n dX1_addRoad_33 rfl ?_
  refine ax_getf dX1_addRoad_34 flX1_62 ((ax_wr_ne (by decide)).trans ((ax_wr_ne (by decide)).trans (e71))) rfl ?_
  refine ax_iload_n dX1_addRoad_37 rfl ?_
  refine ax_iast dX1_addRoad_38 ((ax_wr_ne (by decide)).trans ((ax_wr_ne (by decide)).trans (e78))) (ax_ix_nI hS (by decide)) ?_
  refine ax_aload_n dX1_addRoad_39 rfl ?_
  refine ax_getf dX1_addRoad_40 flX1_36 ((ax_wr_ne (by decide)).trans ((ax_wr_ne (by decide)).trans ((ax_wr_ne (by decide)).trans (e71)))) rfl ?_
  refine ax_aload_n dX1_addRoad_43 rfl ?_
  refine ax_getf dX1_addRoad_44 flX1_62 ((ax_wr_ne (by decide)).trans ((ax_wr_ne (by decide)).trans ((ax_wr_ne (by decide)).trans (e71)))) rfl ?_
  refine ax_iload dX1_addRoad_47 rfl ?_
  refine ax_iast dX1_addRoad_49 ((ax_wr_ne (by decide)).trans ((ax_wr_ne (by decide)).trans ((ax_wr_ne (by decide)).trans (e79)))) (ax_ix_nI hS (by decide)) ?_
  refine ax_aload_n dX1_addRoad_50 rfl ?_
  refine ax_dup dX1_addRoad_51 rfl ?_
  refine ax_getf dX1_addRoad_52 flX1_62 ((ax_wr_ne (by decide)).trans ((ax_wr_ne (by decide)).trans ((ax_wr_ne (by decide)).trans ((ax_wr_ne (by decide)).trans (e71))))) rfl ?_
  refine ax_iconst dX1_addRoad_55 (v := nI 1) (by decide) ?_
  refine ax_iadd dX1_addRoad_56 ?_
  refine ax_putf dX1_addRoad_57 flX1_62 ((ax_wr_ne (by decide)).trans ((ax_wr_ne (by decide)).trans ((ax_wr_ne (by decide)).trans ((ax_wr_ne (by decide)).trans (e71))))) (Nat.le_of_ble_eq_true rfl) (fun _ => ⟨rfl, rfl⟩) ?_
  rw [nI_add]
  have kp : ∀ (x1 x2 x3 x4 x5 : ax_E) j, j ≠ 71 → (j < 76 ∨ 79 < j) → (ax_wr (ax_wr (ax_wr (ax_wr (ax_wr h 76 x1) 77 x2) 78 x3) 79 x4) 71 x5).2.2 j = h.2.2 j := fun x1 x2 x3 x4 x5 j z1 z2 => (ax_wr_ne z1).trans ((ax_wr_ne (by omega)).trans ((ax_wr_ne (by omega)).trans ((ax_wr_ne (by omega)).trans (ax_wr_ne (by omega)))))
  refine ax_return dX1_addRoad_60 rfl (hq _ (((((But.rf.wr (by omega)).wr (by omega)).wr (by omega)).wr (by omega)).wr (by omega)) ⟨ax_wr_eq, ⟨f1, ((ax_wr_ne (by decide)).trans ((ax_wr_ne (by decide)).trans ((ax_wr_ne (by decide)).trans ((ax_wr_ne (by decide)).trans ((ax_wr_ne (by decide)).trans (e72)))))), q1⟩, ⟨f2, ((ax_wr_ne (by decide)).trans ((ax_wr_ne (by decide)).trans ((ax_wr_ne (by decide)).trans ((ax_wr_ne (by decide)).trans ((ax_wr_ne (by decide)).trans (e73)))))), q2⟩, a1.kept (kp _ _ _ _ _ _ (by decide) (by omega)), a2.kept (kp _ _ _ _ _ _ (by decide) (by omega)), ⟨_, ((ax_wr_ne (by decide)).trans ((ax_wr_ne (by decide)).trans ((ax_wr_ne (by decide)).trans ((ax_wr_ne (by decide)).trans (ax_wr_eq))))), isA_ap q3⟩, ⟨_, ((ax_wr_ne (by decide)).trans ((ax_wr_ne (by decide)).trans ((ax_wr_ne (by decide)).trans (ax_wr_eq)))), isA_ap q4⟩, ⟨_, ((ax_wr_ne (by decide)).trans ((ax_wr_ne (by decide)).trans (ax_wr_eq))), isA_ap q5⟩, ⟨_, ((ax_wr_ne (by decide)).trans (ax_wr_eq)), isA_ap q6⟩, a7.kept (fun j z1 z2 => kp _ _ _ _ _ j (by omega) (by omega)), ⟨C, ((ax_wr_ne (by decide)).trans ((ax_wr_ne (by decide)).trans ((ax_wr_ne (by decide)).trans ((ax_wr_ne (by decide)).trans ((ax_wr_ne (by decide)).trans (e85)))))), q7⟩, a8.kept (kp _ _ _ _ _ _ (by decide) (by omega)), a9.kept (kp _ _ _ _ _ _ (by decide) (by omega)), a10⟩)
/-- nothing is drafted -/
def nZero (N : Nt) : Nt := (fun a b => if a = 0 then 0 else N.1 a b, N.2)
theorem c_clear (hD : Dr h N H sn pn cs lb le hl) (hq : ∀ h', But h h' (fun j => 71 ≤ j ∧ j ≤ 87) → Dr h' (nZero N) H sn pn [] (fun _ => 0) (fun _ => 0) 0 → Q (.inl none) h') : X G (d + 1) mX1_clear 0 (ax_in 1 [.ref 71]) [] h Q := by
  obtain ⟨e71, ⟨f1, e72, q1⟩, ⟨f2, e73, q2⟩, ⟨fa, e74, qa⟩, ⟨fb, e75, qb⟩, ⟨f3, e76, q3⟩, ⟨f4, e77, q4⟩, ⟨f5, e78, q5⟩, ⟨f6, e79, q6⟩, ⟨e80, ⟨g1, e81, p1⟩, ⟨g2, e82, p2⟩, ⟨g3, e83, p3⟩, ⟨g4, e84, p4⟩⟩, ⟨C, e85, q7⟩, ⟨f8, e86, q8⟩, ⟨f9, e87, q9⟩, a10⟩ := id hD
  refine ax_aload_n dX1_clear_0 rfl ?_
  refine ax_iconst dX1_clear_1 (v := nI 0) (by decide) ?_
  refine ax_putf dX1_clear_2 flX1_55 e71 (Nat.le_of_ble_eq_true rfl) (fun _ => ⟨rfl, rfl⟩) ?_
  refine ax_aload_n dX1_clear_5 rfl ?_
  refine ax_iconst dX1_clear_6 (v := nI 0) (by decide) ?_
  refine ax_putf dX1_clear_7 flX1_59 ax_wr_eq (Nat.le_of_ble_eq_true rfl) (fun _ => ⟨rfl, rfl⟩) ?_
  rw [ax_wr_wr]
  refine ax_aload_n dX1_clear_10 rfl ?_
  refine ax_iconst dX1_clear_11 (v := nI 0) (by decide) ?_
  refine ax_putf dX1_clear_12 flX1_62 ax_wr_eq (Nat.le_of_ble_eq_true rfl) (fun _ => ⟨rfl, rfl⟩) ?_
  rw [ax_wr_wr]
  refine ax_aload_n dX1_clear_15 rfl ?_
  refine ax_getf dX1_clear_16 flX1_42 ax_wr_eq rfl ?_
  refine ax_iconst dX1_clear_19 (v := nI 0) (by decide) ?_
  refine ax_putf dX1_clear_20 flX1_65 ((ax_wr_ne (by decide)).trans (e80)) (Nat.le_of_ble_eq_true rfl) (fun _ => ⟨rfl, rfl⟩) ?_
  refine ax_aload_n dX1_clear_23 rfl ?_
  refine ax_getf dX1_clear_24 flX1_49 ((ax_wr_ne (by decide)).trans (ax_wr_eq)) rfl ?_
  refine ax_iconst dX1_clear_27 (v := nI 0) (by decide) ?_
  refine ax_cS dX1_clear_28 mmJ7_fill_53178 lkX1_68 mtJ7_fill_53178 rfl rfl (Nat.le_of_ble_eq_true rfl) (Nat.le_of_ble_eq_true rfl) rfl rfl (c_fill (d := d) (by decide) ((ax_wr_ne (by decide)).trans ((ax_wr_ne (by decide)).trans (e86))) ⟨_, rfl, ?_⟩)
  refine ax_aload_n dX1_clear_31 rfl ?_
  refine ax_getf dX1_clear_32 flX1_52 ((ax_wr_ne (by decide)).trans ((ax_wr_ne (by decide)).trans (ax_wr_eq))) rfl ?_
  refine ax_iconst dX1_clear_35 (v := nI 0) (by decide) ?_
  refine ax_cS dX1_clear_36 mmJ7_fill_53178 lkX1_68 mtJ7_fill_53178 rfl rfl (Nat.le_of_ble_eq_true rfl) (Nat.le_of_ble_eq_true rfl) rfl rfl (c_fill (d := d) (by decide) ((ax_wr_ne (by decide)).trans ((ax_wr_ne (by decide)).trans ((ax_wr_ne (by decide)).trans (e87)))) ⟨_, rfl, ?_⟩)
  refine ax_aload_n dX1_clear_39 rfl ?_
  refine ax_iconst dX1_clear_40 (v := nI 0) (by decide) ?_
  refine ax_putf dX1_clear_41 flX1_74 ((ax_wr_ne (by decide)).trans ((ax_wr_ne (by decide)).trans ((ax_wr_ne (by decide)).trans (ax_wr_eq)))) (Nat.le_of_ble_eq_true rfl) (fun _ => ⟨rfl, rfl⟩) ?_
  refine ax_aload_n dX1_clear_44 rfl ?_
  refine ax_iconst dX1_clear_45 (v := nI 0) (by decide) ?_
  refine ax_putf dX1_clear_46 flX1_77 ax_wr_eq (Nat.le_of_ble_eq_true rfl) (nar_b (Or.inl rfl)) ?_
  rw [ax_wr_wr]
  refine ax_return dX1_clear_49 rfl (hq _ (((((But.rf.wr (by omega)).wr (by omega)).wr (by omega)).wr (by omega)).wr (by omega)) ⟨ax_wr_eq, ⟨f1, ((ax_wr_ne (by decide)).trans ((ax_wr_ne (by decide)).trans ((ax_wr_ne (by decide)).trans ((ax_wr_ne (by decide)).trans ((ax_wr_ne (by decide)).trans (e72)))))), fun j hj => absurd hj (Nat.not_lt_zero _)⟩, ⟨f2, ((ax_wr_ne (by decide)).trans ((ax_wr_ne (by decide)).trans ((ax_wr_ne (by decide)).trans ((ax_wr_ne (by decide)).trans ((ax_wr_ne (by decide)).trans (e73)))))), fun j hj => absurd hj (Nat.not_lt_zero _)⟩, ?_, ?_, ⟨f3, ((ax_wr_ne (by decide)).trans ((ax_wr_ne (by decide)).trans ((ax_wr_ne (by decide)).trans ((ax_wr_ne (by decide)).trans ((ax_wr_ne (by decide)).trans (e76)))))), fun j hj => absurd hj (Nat.not_lt_zero _)⟩, ⟨f4, ((ax_wr_ne (by decide)).trans ((ax_wr_ne (by decide)).trans ((ax_wr_ne (by decide)).trans ((ax_wr_ne (by decide)).trans ((ax_wr_ne (by decide)).trans (e77)))))), fun j hj => absurd hj (Nat.not_lt_zero _)⟩, ⟨f5, ((ax_wr_ne (by decide)).trans ((ax_wr_ne (by decide)).trans ((ax_wr_ne (by decide)).trans ((ax_wr_ne (by decide)).trans ((ax_wr_ne (by decide)).trans (e78)))))), fun j hj => absurd hj (Nat.not_lt_zero _)⟩, ⟨f6, ((ax_wr_ne (by decide)).trans ((ax_wr_ne (by decide)).trans ((ax_wr_ne (by decide)).trans ((ax_wr_ne (by decide)).trans ((ax_wr_ne (by decide)).trans (e79)))))), fun j hj => absurd hj (Nat.not_lt_zero _)⟩, ⟨((ax_wr_ne (by decide)).trans ((ax_wr_ne (by decide)).trans ((ax_wr_ne (by decide)).trans (ax_wr_eq)))), ⟨g1, ((ax_wr_ne (by decide)).trans ((ax_wr_ne (by decide)).trans ((ax_wr_ne (by decide)).trans ((ax_wr_ne (by decide)).trans ((ax_wr_ne (by decide)).trans (e81)))))), fun j hj => absurd hj (Nat.not_lt_zero _)⟩, ⟨g2, ((ax_wr_ne (by decide)).trans ((ax_wr_ne (by decide)).trans ((ax_wr_ne (by decide)).trans ((ax_wr_ne (by decide)).trans ((ax_wr_ne (by decide)).trans (e82)))))), fun j hj => absurd hj (Nat.not_lt_zero _)⟩, ⟨g3, ((ax_wr_ne (by decide)).trans ((ax_wr_ne (by decide)).trans ((ax_wr_ne (by decide)).trans ((ax_wr_ne (by decide)).trans ((ax_wr_ne (by decide)).trans (e83)))))), fun j hj => absurd hj (Nat.not_lt_zero _)⟩, ⟨g4, ((ax_wr_ne (by decide)).trans ((ax_wr_ne (by decide)).trans ((ax_wr_ne (by decide)).trans ((ax_wr_ne (by decide)).trans ((ax_wr_ne (by decide)).trans (e84)))))), fun j hj => absurd hj (Nat.not_lt_zero _)⟩⟩, ⟨C, ((ax_wr_ne (by decide)).trans ((ax_wr_ne (by decide)).trans ((ax_wr_ne (by decide)).trans ((ax_wr_ne (by decide)).trans ((ax_wr_ne (by decide)).trans (e85)))))), fun j hj => absurd hj (Nat.not_lt_zero _)⟩, ⟨_, ((ax_wr_ne (by decide)).trans ((ax_wr_ne (by decide)).trans (ax_wr_eq))), flA (by omega) (fun _ => rfl)⟩, ⟨_, ((ax_wr_ne (by decide)).trans (ax_wr_eq)), flA (by omega) (fun _ => rfl)⟩, Or.inl rfl, fun _ hm => by cases hm⟩)
  · exact ⟨fa, ((ax_wr_ne (by decide)).trans ((ax_wr_ne (by decide)).trans ((ax_wr_ne (by decide)).trans ((ax_wr_ne (by decide)).trans ((ax_wr_ne (by decide)).trans (e74)))))), qa⟩
  · exact ⟨fb, ((ax_wr_ne (by decide)).trans ((ax_wr_ne (by decide)).trans ((ax_wr_ne (by decide)).trans ((ax_wr_ne (by decide)).trans ((ax_wr_ne (by decide)).trans (e75)))))), qb⟩
/-- a law that wasn't told is one fact -/
theorem c_fillLaw {l c : Nat} (hl3 : l < 3) (hc : c < 8) (hl1 : cs.length < 1003) (hB : DrB N cs lb le) (hD : Dr h N H sn pn cs lb le hl) (hq : ∀ h' , But h h' (fun j => 71 ≤ j ∧ j ≤ 87) → (if lb l < le l then Dr h' N H sn pn cs lb le hl else Dr h' N H sn pn (cs ++ [c]) (upN lb l cs.length) (upN le l (cs.length + 1)) (hlN hl c)) → Q (.inl none) h') : X G (d + 1) mX1_fillLaw 0 (ax_in 3 [.ref 71, .int (nI l), .int (nI c)]) [] h Q := by
  have e71 := hD.1
  refine ax_aload_n dX1_fillLaw_0 rfl ?_
  refine ax_iload_n dX1_fillLaw_1 rfl ?_
  refine ax_cV dX1_fillLaw_2 mmX1_hasLaw lkX1_89 miX1_hasLaw msX1_hasLaw (ax_recv_of e71 rfl) rfl rfl (Nat.le_of_ble_eq_true rfl) (Nat.le_of_ble_eq_true rfl) rfl rfl (c_hasLaw (d := d) hl3 hD hB ⟨_, rfl, ?_⟩)
  by_cases hz : lb l < le l
  · rw [b1_t hz]
    simp only [if_pos hz] at hq
    refine ax_if_neT 33 dX1_fillLaw_5 (by decide) (by decide) ?_
    exact ax_return dX1_fillLaw_33 rfl (hq _ But.rf hD)
  · rw [b1_f hz]
    simp only [if_neg hz] at hq
    obtain ⟨f8, e86, q8⟩ := hD.2.2.2.2.2.2.2.2.2.2.2.1
    refine ax_if_neF 33 dX1_fillLaw_5 (by decide) rfl ?_
    refine ax_aload_n dX1_fillLaw_8 rfl ?_
    refine ax_getf dX1_fillLaw_9 flX1_49 e71 rfl ?_
    refine ax_iload_n dX1_fillLaw_12 rfl ?_
    refine ax_aload_n dX1_fillLaw_13 rfl ?_
    refine ax_getf dX1_fillLaw_14 flX1_74 e71 rfl ?_
    refine ax_iast dX1_fillLaw_17 e86 (ax_ix_nI hl3 (by decide)) ?_
    have kp : ∀ j, j ≠ 86 → (ax_wr h 86 (eI 3 (upd f8 l (nI cs.length)))).2.2 j = h.2.2 j := fun j z => ax_wr_ne z
    have hD1 : Dr (ax_wr h 86 (eI 3 (upd f8 l (nI cs.length)))) N H sn pn cs (upN lb l cs.length) le hl := by
      obtain ⟨-, ⟨f1, e1, q1⟩, ⟨f2, e2, q2⟩, a1, a2, a3, a4, a5, a6, a7, ⟨C, e3, q3⟩, a8, a9, a10⟩ := id hD
      exact ⟨(kp _ (by decide)).trans e71, ⟨f1, (kp _ (by decide)).trans e1, q1⟩, ⟨f2, (kp _ (by decide)).trans e2, q2⟩, a1.kept (kp _ (by decide)), a2.kept (kp _ (by decide)), a3.kept (kp _ (by decide)), a4.kept (kp _ (by decide)), a5.kept (kp _ (by decide)), a6.kept (kp _ (by decide)), a7.kept (fun j z1 z2 => kp j (by omega)), ⟨C, (kp _ (by decide)).trans e3, q3⟩, ⟨_, ax_wr_eq, isA_up q8⟩, a9.kept (kp _ (by decide)), a10⟩
    have hb1 : But h (ax_wr h 86 (eI 3 (upd f8 l (nI cs.length)))) (fun j => 71 ≤ j ∧ j ≤ 87) := But.rf.wr (by omega)
    generalize ax_wr h 86 (eI 3 (upd f8 l (nI cs.length))) = h1 at hD1 hb1 ⊢
    have e71 := hD1.1
    refine ax_aload_n dX1_fillLaw_18 rfl ?_
    refine ax_iload_n dX1_fillLaw_19 rfl ?_
    refine ax_cV dX1_fillLaw_20 mmX1_emit lkX1_93 miX1_emit msX1_emit (ax_recv_of e71 rfl) rfl rfl (Nat.le_of_ble_eq_true rfl) (Nat.le_of_ble_eq_true rfl) rfl rfl (c_emit (d := d) (by omega) hl1 hD1 (fun h2 hb2 hD2 => ⟨_, rfl, ?_⟩))
    have hlen : (cs ++ [c]).length = cs.length + 1 := by rw [List.length_append]; rfl
    have e71 := hD2.1
    rw [hlen] at e71
    obtain ⟨f9, e87, q9⟩ := hD2.2.2.2.2.2.2.2.2.2.2.2.2.1
    refine ax_aload_n dX1_fillLaw_23 rfl ?_
    refine ax_getf dX1_fillLaw_24 flX1_52 e71 rfl ?_
    refine ax_iload_n dX1_fillLaw_27 rfl ?_
    refine ax_aload_n dX1_fillLaw_28 rfl ?_
    refine ax_getf dX1_fillLaw_29 flX1_74 e71 rfl ?_
    refine ax_iast dX1_fillLaw_32 e87 (ax_ix_nI hl3 (by decide)) ?_
    have kp2 : ∀ j, j ≠ 87 → (ax_wr h2 87 (eI 3 (upd f9 l (nI (cs.length + 1))))).2.2 j = h2.2.2 j := fun j z => ax_wr_ne z
    refine ax_return dX1_fillLaw_33 rfl (hq _ (((hb1.tr (hb2.wide (fun j z => by omega)))).wr (by omega)) ?_)
    obtain ⟨g0, ⟨f1, e1, q1⟩, ⟨f2, e2, q2⟩, a1, a2, a3, a4, a5, a6, a7, ⟨C, e3, q3⟩, a8, a9, a10⟩ := id hD2
    exact ⟨(kp2 _ (by decide)).trans g0, ⟨f1, (kp2 _ (by decide)).trans e1, q1⟩, ⟨f2, (kp2 _ (by decide)).trans e2, q2⟩, a1.kept (kp2 _ (by decide)), a2.kept (kp2 _ (by decide)), a3.kept (kp2 _ (by decide)), a4.kept (kp2 _ (by decide)), a5.kept (kp2 _ (by decide)), a6.kept (kp2 _ (by decide)), a7.kept (fun j z1 z2 => kp2 j (by omega)), ⟨C, (kp2 _ (by decide)).trans e3, q3⟩, a8.kept (kp2 _ (by decide)), ⟨_, ax_wr_eq, isA_up q9⟩, a10⟩
end NE2
