section HP2
variable {G : ax_G} {d : Nat} {h : ax_H} {Q : ax_O → ax_H → Prop} {N : Nt} {σ : Sd}
/-- holes behind n years of the trial -/
def hA (N : Nt) (σ : Sd) (tr : Nat → Nat → Nat) (T n : Nat) (sw : Option Nat) : Nat := hT N (yN N 0 tr T sw σ n)
theorem c_holesAsTold {b y n : Nat} (hN : nOK N) (hB : Bd N σ b y) (hb0 : 5300 ≤ b) (hb1 : b < 100000) (hy : y + n ≤ 28000) (hC : Cs h N σ)
    (hq : ∀ h', But h h' trP → Cs h' N σ → Q (.inl (some (.int (nI (hA N σ (trN N) (nT N) n none))))) h') : X G (d + 6) mX11_holesAsTold 0 (ax_in 2 [.ref 64, .int (nI n)]) [] h Q := by
  obtain ⟨⟨dr, e64⟩, -⟩ := id hC
  refine ax_aload_n dX11_holesAsTold_0 rfl ?_
  refine ax_cV dX11_holesAsTold_1 mmX11_beginTrial lkX11_236 miX11_beginTrial msX11_beginTrial (ax_recv_of e64 rfl) rfl rfl (Nat.le_of_ble_eq_true rfl) (Nat.le_of_ble_eq_true rfl) rfl rfl (c_beginTrial (d := d + 3) hN hC (fun h1 hb1' hE1 hT1 hC1 => ⟨_, rfl, ?_⟩))
  obtain ⟨⟨dr, e64⟩, -⟩ := id hC1
  refine ax_aload_n dX11_holesAsTold_4 rfl ?_
  refine ax_iload_n dX11_holesAsTold_5 rfl ?_
  refine ax_iconst dX11_holesAsTold_6 (v := -1) (by decide) ?_
  refine ax_cV dX11_holesAsTold_7 mmX11_passTrial lkX11_262 miX11_passTrial msX11_passTrial (ax_recv_of e64 rfl) rfl rfl (Nat.le_of_ble_eq_true rfl) (Nat.le_of_ble_eq_true rfl) rfl rfl (c_passTrial (sw := none) (fun r hr => by cases hr) hN.tr hN hB hb0 hb1 hy hC1 hT1 hE1 (fun h2 hb2 hC2 hT2 hE2 => ⟨_, rfl, ?_⟩))
  obtain ⟨⟨dr, e64⟩, hL2, -⟩ := id hC2
  have hB2 := hB.years (kp := 0) (sw := none) hN hN.tr hb0 n
  refine ax_aload_n dX11_holesAsTold_10 rfl ?_
  refine ax_aload_n dX11_holesAsTold_11 rfl ?_
  refine ax_getf dX11_holesAsTold_12 flX11_51 e64 rfl ?_
  refine ax_cV dX11_holesAsTold_15 mmX11_holesTogether lkX11_266 miX11_holesTogether msX11_holesTogether (ax_recv_of e64 rfl) rfl rfl (Nat.le_of_ble_eq_true rfl) (Nat.le_of_ble_eq_true rfl) rfl rfl (c_holesTogether (d := d + 4) hN (fun r hr => by have := hB2.1 r hr; omega) e64 hL2 hE2 ⟨_, rfl, ?_⟩)
  exact ax_ireturn dX11_holesAsTold_18 rfl (hq _ ((hb1'.wide (fun j z => Or.inl z)).tr hb2) hC2)
def trC (tr : Nat → Nat → Nat) (s : Nat) : Nat → Nat → Nat := fun i t => if i = 2 then s else tr i t
theorem trC_ok {T s : Nat} {tr : Nat → Nat → Nat} (hs : s < nS N) (a : trOK N T tr) : trOK N T (trC tr s) := ⟨a.1, fun t ht => by obtain ⟨q1, q2, q3, q4, q5, q6⟩ := a.2 t ht; exact ⟨q1, q2, hs, q4, q5, q6⟩⟩
theorem c_holesIfAllCarry {b y n s : Nat} (hs : s < nS N) (hN : nOK N) (hB : Bd N σ b y) (hb0 : 5300 ≤ b) (hb1 : b < 100000) (hy : y + n ≤ 28000) (hC : Cs h N σ)
    (hq : ∀ h', But h h' trP → Cs h' N σ → Q (.inl (some (.int (nI (hA N σ (trC (trN N) s) (nT N) n none))))) h') : X G (d + 6) mX11_holesIfAllCarry 0 (ax_in 3 [.ref 64, .int (nI s), .int (nI n)]) [] h Q := by
  obtain ⟨⟨dr, e64⟩, -⟩ := id hC
  refine ax_aload_n dX11_holesIfAllCarry_0 rfl ?_
  refine ax_cV dX11_holesIfAllCarry_1 mmX11_beginTrial lkX11_236 miX11_beginTrial msX11_beginTrial (ax_recv_of e64 rfl) rfl rfl (Nat.le_of_ble_eq_true rfl) (Nat.le_of_ble_eq_true rfl) rfl rfl (c_beginTrial (d := d + 3) hN hC (fun h1 hb1' hE1 hT1 hC1 => ⟨_, rfl, ?_⟩))
  obtain ⟨⟨dr, e64⟩, -⟩ := id hC1
  have e124 := hT1.1
  refine ax_aload_n dX11_holesIfAllCarry_4 rfl ?_
  refine ax_getf dX11_holesIfAllCarry_5 flX11_57 e64 rfl ?_
  refine ax_iload_n dX11_holesIfAllCarry_8 rfl ?_
  refine ax_cV dX11_holesIfAllCarry_9 mmX8_allCarry lkX11_310 miX8_allCarry msX8_allCarry (ax_recv_of e124 rfl) rfl rfl (Nat.le_of_ble_eq_true rfl) (Nat.le_of_ble_eq_true rfl) rfl rfl (c_allCarry (d := d + 4) hN.2.2.2.1 hT1 (fun h3 hb3 hT3 => ⟨_, rfl, ?_⟩))
  have hE3 : StIs h3 115 0 N σ := hE1.kept (fun j z1 z2 => hb3.2.2 j (by omega))
  have hb3' : But h1 h3 trP := hb3.wide (fun j z => by unfold trP; omega)
  have hC3 : Cs h3 N σ := hC1.after hb3' hE3.any hT3.any (hC1.2.2.2.2.2.kept (fun j z1 z2 => hb3.2.2 j (by omega)))
  obtain ⟨⟨dr, e64⟩, -⟩ := id hC3
  refine ax_aload_n dX11_holesIfAllCarry_12 rfl ?_
  refine ax_iload_n dX11_holesIfAllCarry_13 rfl ?_
  refine ax_iconst dX11_holesIfAllCarry_14 (v := -1) (by decide) ?_
  refine ax_cV dX11_holesIfAllCarry_15 mmX11_passTrial lkX11_262 miX11_passTrial msX11_passTrial (ax_recv_of e64 rfl) rfl rfl (Nat.le_of_ble_eq_true rfl) (Nat.le_of_ble_eq_true rfl) rfl rfl (c_passTrial (sw := none) (fun r hr => by cases hr) (trC_ok hs hN.tr) hN hB hb0 hb1 hy hC3 hT3 hE3 (fun h2 hb2 hC2 hT2 hE2 => ⟨_, rfl, ?_⟩))
  obtain ⟨⟨dr, e64⟩, hL2, -⟩ := id hC2
  have hB2 := hB.years (kp := 0) (sw := none) hN (trC_ok hs hN.tr) hb0 n
  refine ax_aload_n dX11_holesIfAllCarry_18 rfl ?_
  refine ax_aload_n dX11_holesIfAllCarry_19 rfl ?_
  refine ax_getf dX11_holesIfAllCarry_20 flX11_51 e64 rfl ?_
  refine ax_cV dX11_holesIfAllCarry_23 mmX11_holesTogether lkX11_266 miX11_holesTogether msX11_holesTogether (ax_recv_of e64 rfl) rfl rfl (Nat.le_of_ble_eq_true rfl) (Nat.le_of_ble_eq_true rfl) rfl rfl (c_holesTogether (d := d + 4) hN (fun r hr => by have := hB2.1 r hr; omega) e64 hL2 hE2 ⟨_, rfl, ?_⟩)
  exact ax_ireturn dX11_holesIfAllCarry_26 rfl (hq _ (((hb1'.wide (fun j z => Or.inl z)).tr hb3').tr hb2) hC2)
/-- the way of a trade, as the roads are now -/
def wyT (N : Nt) (σ : Sd) (t : Nat) : List Nat × Option Nat := wy N (pv N σ (N.1 9 t)) (N.1 6 t) (N.1 7 t)
theorem c_findWayNow {t : Nat} (ht : t < nT N) (hN : nOK N) (hO : sOK N σ) (hC : Cs h N σ)
    (hq : ∀ h', But h h' trP → Cs h' N σ → ((wyT N σ t).2 = some (N.1 7 t) → h'.2.2 138 = some (eWf (nI (wyT N σ t).1.length) (nI ((bfN N (pv N σ (N.1 9 t)) (N.1 7 t) 7).1 (N.1 6 t) / 16))) ∧ isA h' 139 7 (wyT N σ t).1.length (fun j => (wyT N σ t).1.getD j 0) ∧ (wyT N σ t).1.length ≤ 7) → Q (.inl (some (.int (b1 ((wyT N σ t).2 = some (N.1 7 t)))))) h') : X G (d + 4) mX11_findWayNow 0 (ax_in 2 [.ref 64, .int (nI t)]) [] h Q := by
  obtain ⟨⟨dr, e64⟩, hL, hE, hA, hTr, hS⟩ := id hC
  obtain ⟨g1, g2, g3, g4, g5, g6, g7, hW, ⟨cm, g9⟩, g10, g11⟩ := id hS
  have hT6 := hN.2.2.2.1
  have hP7 := hN.2.1
  obtain ⟨b1', b2', -, -, -, -⟩ := hN.2.2.2.2.2.2.1 t ht
  have e131 := g1
  refine ax_aload_n dX11_findWayNow_0 rfl ?_
  refine ax_getf dX11_findWayNow_1 flX11_74 e64 rfl ?_
  refine ax_aload_n dX11_findWayNow_4 rfl ?_
  refine ax_getf dX11_findWayNow_5 flX11_47 e64 rfl ?_
  refine ax_cV dX11_findWayNow_8 mmX4_look lkX11_206 miX4_look msX4_look (ax_recv_of e131 rfl) rfl rfl (Nat.le_of_ble_eq_true rfl) (Nat.le_of_ble_eq_true rfl) rfl rfl (c_look (by omega) (by omega) hN hL hE hO g1 g2 g3 g4 g5 g6 g7 (fun h1 hs1 hS1 => ⟨_, rfl, ?_⟩))
  have kp1 : ∀ j, (j < 134 ∨ 137 < j) → h1.2.2 j = h.2.2 j := fun j z => hs1.2.2 j z
  have e64 := (kp1 64 (by omega)).trans e64
  have hL1 : Land h1 N := hL.kept (fun j z1 z2 => kp1 j (by omega))
  have hW1 : WfIs h1 := hW.kept (fun j z1 z2 => kp1 j (by omega))
  obtain ⟨⟨co, hl, e89, -⟩, -, -, -, -, -, e98, -, -, -, ⟨f9, e102, q9⟩, -⟩ := id hL1
  obtain ⟨⟨mm, pp, e138⟩, -⟩ := id hW1
  refine ax_aload_n dX11_findWayNow_11 rfl ?_
  refine ax_getf dX11_findWayNow_12 flX11_83 e64 rfl ?_
  refine ax_aload_n dX11_findWayNow_15 rfl ?_
  refine ax_getf dX11_findWayNow_16 flX11_39 e64 rfl ?_
  refine ax_getf dX11_findWayNow_19 flX11_164 e89 rfl ?_
  refine ax_getf dX11_findWayNow_22 flX11_176 e98 rfl ?_
  refine ax_iload_n dX11_findWayNow_25 rfl ?_
  refine ax_iald dX11_findWayNow_26 e102 (ax_ix_nI (by omega) (by decide)) ?_
  rw [q9 t ht]
  refine ax_cV dX11_findWayNow_27 mmX9_setPrices lkX11_298 miX9_setPrices msX9_setPrices (ax_recv_of e138 rfl) rfl rfl (Nat.le_of_ble_eq_true rfl) (Nat.le_of_ble_eq_true rfl) rfl rfl (c_setPrices (d := d) hN hO hL1 hS1 hW1 (fun h2 hs2 hk2 hS2 hA2 => ⟨_, rfl, ?_⟩))
  have kp2 : ∀ j, (j < 132 ∨ 140 < j) → h2.2.2 j = h1.2.2 j := fun j z => hs2.2.2 j z
  have e64 := (kp2 64 (by omega)).trans e64
  have hL2 : Land h2 N := hL1.kept (fun j z1 z2 => kp2 j (by omega))
  obtain ⟨m1, m2, m3, m4⟩ := id hW1
  have hW2 : WfIs h2 := ⟨⟨mm, pp, (hk2 138 (by omega) (by omega)).trans e138⟩, m2.kept (hk2 139 (by omega) (by omega)), hA2.any, m4.kept (kp2 141 (by omega))⟩
  obtain ⟨⟨co, hl, e89, -⟩, -, -, -, -, -, e98, ⟨f6, e99, q6⟩, ⟨f7, e100, q7⟩, -⟩ := id hL2
  obtain ⟨⟨mm, pp, e138⟩, -⟩ := id hW2
  refine ax_aload_n dX11_findWayNow_30 rfl ?_
  refine ax_getf dX11_findWayNow_31 flX11_83 e64 rfl ?_
  refine ax_aload_n dX11_findWayNow_34 rfl ?_
  refine ax_getf dX11_findWayNow_35 flX11_39 e64 rfl ?_
  refine ax_getf dX11_findWayNow_38 flX11_164 e89 rfl ?_
  refine ax_getf dX11_findWayNow_41 flX11_167 e98 rfl ?_
  refine ax_iload_n dX11_findWayNow_44 rfl ?_
  refine ax_iald dX11_findWayNow_45 e99 (ax_ix_nI (by omega) (by decide)) ?_
  rw [q6 t ht]
  refine ax_aload_n dX11_findWayNow_46 rfl ?_
  refine ax_getf dX11_findWayNow_47 flX11_39 e64 rfl ?_
  refine ax_getf dX11_findWayNow_50 flX11_164 e89 rfl ?_
  refine ax_getf dX11_findWayNow_53 flX11_170 e98 rfl ?_
  refine ax_iload_n dX11_findWayNow_56 rfl ?_
  refine ax_iald dX11_findWayNow_57 e100 (ax_ix_nI (by omega) (by decide)) ?_
  rw [q7 t ht]
  refine ax_cV dX11_findWayNow_58 mmX9_find lkX11_301 miX9_find msX9_find (ax_recv_of e138 rfl) rfl rfl (Nat.le_of_ble_eq_true rfl) (Nat.le_of_ble_eq_true rfl) rfl rfl (c_find (d := d + 1) (by omega) (by omega) hN hL2 (fun r => (pv_le N σ (N.1 9 t) r).2) hA2 hW2 (fun h3 hs3 h40 hW3 hway => ⟨_, rfl, ?_⟩))
  have kp3 : ∀ j, (j < 138 ∨ 141 < j) → h3.2.2 j = h2.2.2 j := fun j z => hs3.2.2 j z
  have hb : But h h3 trP := ((hs1.but (fun j z1 z2 => by unfold trP; omega)).tr (hs2.but (fun j z1 z2 => by unfold trP; omega))).tr (hs3.but (fun j z1 z2 => by unfold trP; omega))
  have hS3 : Seen h3 N σ := hS2.kept (fun j z1 z2 => kp3 j (by omega))
  obtain ⟨y1, y2, y3, y4, y5, y6, y7⟩ := hS3.any
  have kp : ∀ j, (j < 132 ∨ 141 < j) → h3.2.2 j = h.2.2 j := fun j z => (kp3 j (by omega)).trans ((kp2 j (by omega)).trans (kp1 j (by omega)))
  have hScr : Scr h3 := ⟨y1, y2, y3, y4, y5, y6, y7, hW3, ⟨cm, (kp 142 (by omega)).trans g9⟩, g10.kept (kp 143 (by omega)), g11.kept (kp 144 (by omega))⟩
  exact ax_zreturn dX11_findWayNow_61 rfl (b1_01 _) (hq _ hb (hC.after hb (hA.kept (fun j z1 z2 => kp j (by omega))) (hTr.kept (fun j z1 z2 => kp j (by omega))) hScr) hway)
/-- the draw -/
def dw (x : Nat) : Nat := (x * 1103515245 + 12345) % 2147483648
theorem dw_lt (x : Nat) : dw x < 2147483648 := Nat.mod_lt _ (by decide)
theorem c_drawBelow {x n : Nat} (hx : x < 2147483648) (hn : 0 < n) (hn1 : n < 2 ^ 31) (e64 : h.2.2 64 = some (eX (lN x))) (hq : Q (.inl (some (.int (nI (dw x / 65536 % n))))) (ax_wr h 64 (eX (lN (dw x))))) : X G d mX11_drawBelow 0 (ax_in 2 [.ref 64, .int (nI n)]) [] h Q := by
  have hb := dw_lt x
  refine ax_aload_n dX11_drawBelow_0 rfl ?_
  refine ax_aload_n dX11_drawBelow_1 rfl ?_
  refine ax_getf dX11_drawBelow_2 flX11_282 e64 rfl ?_
  refine ax_ldc2 dX11_drawBelow_5 cnX11_324 ?_
  refine ax_lmul dX11_drawBelow_8 ?_
  refine ax_ldc2 dX11_drawBelow_9 cnX11_326 ?_
  refine ax_ladd dX11_drawBelow_12 ?_
  refine ax_ldc2 dX11_drawBelow_13 cnX11_328 ?_
  rw [show (1103515245 : Int64) = lN 1103515245 from by decide, show (12345 : Int64) = lN 12345 from by decide, show (2147483648 : Int64) = lN 2147483648 from by decide, lN_mul, lN_add]
  refine ax_lrem dX11_drawBelow_16 (by decide) ?_
  refine ax_topl (pk_lRem (by omega) (by omega) (by omega)) ?_
  refine ax_putf dX11_drawBelow_17 flX11_282 e64 (Nat.le_of_ble_eq_true rfl) (fun _ => ⟨rfl, rfl⟩) ?_
  refine ax_iload_n dX11_drawBelow_20 rfl ?_
  refine ax_if_leF 39 dX11_drawBelow_21 (by decide) (fun q => absurd q (nI_nle hn (by omega))) ?_
  refine ax_aload_n dX11_drawBelow_24 rfl ?_
  refine ax_getf dX11_drawBelow_25 flX11_282 ax_wr_eq rfl ?_
  refine ax_ldc2 dX11_drawBelow_28 cnX11_330 ?_
  rw [show (65536 : Int64) = lN 65536 from by decide]
  refine ax_ldiv dX11_drawBelow_31 (by decide) ?_
  refine ax_topl (pk_lDiv (by show dw x < _; omega) (by omega) (by omega)) ?_
  refine ax_iload_n dX11_drawBelow_32 rfl ?_
  refine ax_i2l dX11_drawBelow_33 ?_
  rw [nI_l hn1]
  refine ax_lrem dX11_drawBelow_34 (fun e => by have := (pk_lEQ (a := n) (b := 0) (by omega) (by omega)).mp e; omega) ?_
  refine ax_topl (pk_lRem (by show dw x / 65536 < _; omega) (by omega) (by omega)) ?_
  refine ax_l2i dX11_drawBelow_35 ?_
  refine ax_topi (lN_i _) ?_
  refine ax_goto 40 dX11_drawBelow_36 (by decide) ?_
  exact ax_ireturn dX11_drawBelow_40 rfl hq
end HP2
