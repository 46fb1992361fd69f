section CT3
variable {G : ax_G} {d : Nat} {h : ax_H} {Q : ax_O → ax_H → Prop} {N : Nt} {σ : Sd}
def qCost (N : Nt) (σ : Sd) (x : Int32) : Option Int32 := match ixN (nT N) x with
  | none => none
  | some t => if (wyT N σ t).2 = some (N.1 7 t) then some (nI ((bfN N (pv N σ (N.1 9 t)) (N.1 7 t) 7).1 (N.1 6 t) / 16)) else none
theorem c_cost {x : Int32} (hT : Thr G) (hN : nOK N) (hO : sOK N σ) (hC : Cs h N σ)
    (hq : ∀ v h', qCost N σ x = some v → But h h' trP → Cs h' N σ → Q (.inl (some (.int v))) h')
    (hx : qCost N σ x = none → ∀ h', But h h' trP → Cs h' N σ → Q (.inr h'.1) (h'.1 + 1, h'.2.1 + 6, h'.2.2)) : X G (d + 6) mX11_cost 0 (ax_in 2 [.ref 64, .int x]) [] h Q := by
  obtain ⟨⟨dr, e64⟩, ⟨⟨co, hl, e89, -⟩, -, -, -, -, -, e98, -⟩, -⟩ := id hC
  have hT6 := hN.2.2.2.1
  refine ax_aload_n dX11_cost_0 rfl ?_
  refine ax_iload_n dX11_cost_1 rfl ?_
  refine ax_cV dX11_cost_2 mmX11_isTrade lkX11_161 miX11_isTrade msX11_isTrade (ax_recv_of e64 rfl) rfl rfl (Nat.le_of_ble_eq_true rfl) (Nat.le_of_ble_eq_true rfl) rfl rfl (c_isTrade e64 e89 e98 ⟨_, rfl, ?_⟩)
  unfold qCost at hq hx
  rcases ix_cases (n := nT N) (by omega) x with ⟨hs, hb, -⟩ | ⟨t, ht, rfl, hs, hb⟩
  · rw [hs] at hq hx
    rw [hb]
    refine ax_if_neF 18 dX11_cost_5 (by decide) (by decide) ?_
    exact ax_throwS (is := 196) (tx := "no such trade") hT rfl (by decide) rfl (Nat.le_of_ble_eq_true rfl) (by omega) dX11_cost_8 dX11_cost_11 dX11_cost_12 dX11_cost_14 dX11_cost_17 (hx rfl _ But.rf hC)
  · rw [hs] at hq hx
    dsimp only at hq hx
    rw [hb]
    refine ax_if_neT 18 dX11_cost_5 (by decide) (by decide) ?_
    refine ax_aload_n dX11_cost_18 rfl ?_
    refine ax_iload_n dX11_cost_19 rfl ?_
    refine ax_cV dX11_cost_20 mmX11_findWayNow lkX11_185 miX11_findWayNow msX11_findWayNow (ax_recv_of e64 rfl) rfl rfl (Nat.le_of_ble_eq_true rfl) (Nat.le_of_ble_eq_true rfl) rfl rfl (c_findWayNow (d := d + 1) ht hN hO hC (fun h1 hb1 hC1 hw => ⟨_, rfl, ?_⟩))
    obtain ⟨⟨dr, e64⟩, -, -, -, -, hS1⟩ := id hC1
    by_cases hc : (wyT N σ t).2 = some (N.1 7 t)
    · obtain ⟨e138, -, -⟩ := hw hc
      rw [b1_t hc]
      rw [if_pos hc] at hq
      refine ax_if_neT 36 dX11_cost_23 (by decide) (by decide) ?_
      refine ax_aload_n dX11_cost_36 rfl ?_
      refine ax_getf dX11_cost_37 flX11_83 e64 rfl ?_
      refine ax_getf dX11_cost_40 flX11_203 e138 rfl ?_
      exact ax_ireturn dX11_cost_43 rfl (hq _ _ rfl hb1 hC1)
    · rw [b1_f hc]
      rw [if_neg hc] at hx
      refine ax_if_neF 36 dX11_cost_23 (by decide) (by decide) ?_
      exact ax_throwS (is := 201) (tx := "the trade is stranded") hT rfl (by decide) rfl (Nat.le_of_ble_eq_true rfl) (by omega) dX11_cost_26 dX11_cost_29 dX11_cost_30 dX11_cost_32 dX11_cost_35 (hx rfl _ hb1 hC1)
def qSwept (N : Nt) (σ : Sd) (x w : Int32) : Option Int32 := match ixN (nR N) x, yrs w with
  | some r, some n => some (nI (hA N σ (trN N) (nT N) n (some r)) - nI (hA N σ (trN N) (nT N) n none))
  | _, _ => none
theorem c_swept {x w : Int32} {b y : Nat} (hT : Thr G) (hN : nOK N) (hB : Bd N σ b y) (hb0 : 5300 ≤ b) (hb1 : b < 100000) (hy : y + 50 ≤ 28000) (hC : Cs h N σ)
    (hq : ∀ v h', qSwept N σ x w = some v → But h h' trP → Cs h' N σ → Q (.inl (some (.int v))) h')
    (hx : qSwept N σ x w = none → ∀ h', But h h' trP → Cs h' N σ → Q (.inr h'.1) (h'.1 + 1, h'.2.1 + 6, h'.2.2)) : X G (d + 7) mX11_swept 0 (ax_in 4 [.ref 64, .int x, .int w]) [] h Q := by
  obtain ⟨⟨dr, e64⟩, ⟨⟨co, hl, e89, -⟩, -⟩, -⟩ := id hC
  have hR := hN.2.2.1
  have thr : qSwept N σ x w = none → X G (d + 7) mX11_swept 15 [some (.ref 64), some (.int x), some (.int w), none] [] h Q := fun z =>
    ax_throwSW (is := 270) (tx := "no such road, or no such years") hT rfl (by decide) rfl (Nat.le_of_ble_eq_true rfl) (by omega) dX11_swept_15 dX11_swept_18 dX11_swept_19 dX11_swept_22 dX11_swept_25 (hx z _ But.rf hC)
  unfold qSwept at hq hx thr
  refine ax_aload_n dX11_swept_0 rfl ?_
  refine ax_iload_n dX11_swept_1 rfl ?_
  refine ax_cV dX11_swept_2 mmX11_isRoad lkX11_132 miX11_isRoad msX11_isRoad (ax_recv_of e64 rfl) rfl rfl (Nat.le_of_ble_eq_true rfl) (Nat.le_of_ble_eq_true rfl) rfl rfl (c_isRoad e64 e89 ⟨_, rfl, ?_⟩)
  rcases ix_cases (n := nR N) (by omega) x with ⟨hs, hb, -⟩ | ⟨r, hr, rfl, hs, hb⟩
  · rw [hs] at thr
    rw [hb]
    refine ax_if_eqT 15 dX11_swept_5 (by decide) rfl ?_
    exact thr rfl
  · rw [hs] at hq thr
    rw [hb]
    refine ax_if_eqF 15 dX11_swept_5 (by decide) (by decide) ?_
    refine ax_iload_n dX11_swept_8 rfl ?_
    refine ax_cS dX11_swept_9 mmX11_isYears lkX11_213 mtX11_isYears rfl rfl (Nat.le_of_ble_eq_true rfl) (Nat.le_of_ble_eq_true rfl) rfl rfl (c_isYears ⟨_, rfl, ?_⟩)
    rcases yrs_cases w with ⟨hw, hb⟩ | ⟨n, hn1, hn50, rfl, hw, hb⟩
    · rw [hw] at thr
      rw [hb]
      refine ax_if_neF 26 dX11_swept_12 (by decide) (by decide) ?_
      exact thr rfl
    · rw [hw] at hq
      dsimp only at hq
      rw [hb]
      refine ax_if_neT 26 dX11_swept_12 (by decide) (by decide) ?_
      refine ax_aload_n dX11_swept_26 rfl ?_
      refine ax_iload_n dX11_swept_27 rfl ?_
      refine ax_cV dX11_swept_28 mmX11_holesAsTold lkX11_254 miX11_holesAsTold msX11_holesAsTold (ax_recv_of e64 rfl) rfl rfl (Nat.le_of_ble_eq_true rfl) (Nat.le_of_ble_eq_true rfl) rfl rfl (c_holesAsTold (d := d) hN hB hb0 hb1 (by omega) hC (fun h0 hb0' hC0 => ⟨_, rfl, ?_⟩))
      obtain ⟨⟨dr, e64⟩, -⟩ := id hC0
      refine ax_istore_n dX11_swept_31 (Nat.le_of_ble_eq_true rfl) ?_
      refine ax_aload_n dX11_swept_32 rfl ?_
      refine ax_cV dX11_swept_33 mmX11_beginTrial lkX11_236 miX11_beginTrial msX11_beginTrial (ax_recv_of e64 rfl) rfl rfl (Nat.le_of_ble_eq_true rfl) (Nat.le_of_ble_eq_true rfl) rfl rfl (c_beginTrial (d := d + 4) hN hC0 (fun h1 hb1' hE1 hT1 hC1 => ⟨_, rfl, ?_⟩))
      obtain ⟨⟨dr, e64⟩, -⟩ := id hC1
      refine ax_aload_n dX11_swept_36 rfl ?_
      refine ax_iload_n dX11_swept_37 rfl ?_
      refine ax_iload_n dX11_swept_38 rfl ?_
      refine ax_cV dX11_swept_39 mmX11_passTrial lkX11_262 miX11_passTrial msX11_passTrial (ax_recv_of e64 rfl) rfl rfl (Nat.le_of_ble_eq_true rfl) (Nat.le_of_ble_eq_true rfl) rfl rfl (c_passTrial (d := d + 1) (sw := some r) (fun r' hr' => by cases hr'; omega) hN.tr hN hB hb0 hb1 (by omega) hC1 hT1 hE1 (fun h2 hb2 hC2 hT2 hE2 => ⟨_, rfl, ?_⟩))
      obtain ⟨⟨dr, e64⟩, hL2, -⟩ := id hC2
      have hB2 := hB.years (kp := 0) (sw := some r) hN hN.tr hb0 n
      refine ax_aload_n dX11_swept_42 rfl ?_
      refine ax_aload_n dX11_swept_43 rfl ?_
      refine ax_getf dX11_swept_44 flX11_51 e64 rfl ?_
      refine ax_cV dX11_swept_47 mmX11_holesTogether lkX11_266 miX11_holesTogether msX11_holesTogether (ax_recv_of e64 rfl) rfl rfl (Nat.le_of_ble_eq_true rfl) (Nat.le_of_ble_eq_true rfl) rfl rfl (c_holesTogether (d := d + 5) hN (fun r hr => by have := hB2.1 r hr; omega) e64 hL2 hE2 ⟨_, rfl, ?_⟩)
      refine ax_iload_n dX11_swept_50 rfl ?_
      refine ax_isub dX11_swept_51 ?_
      exact ax_ireturn dX11_swept_52 rfl (hq _ _ rfl (hb0'.tr ((hb1'.wide (fun j z => Or.inl z)).tr hb2)) hC2)
/-- a newcomer is told as it must be -/
def nwG (N : Nt) (a b s l n w : Int32) : Prop := (¬ a < 0 ∧ ¬ nI (nP N) ≤ a) ∧ (¬ b < 0 ∧ ¬ nI (nP N) ≤ b) ∧ ¬ a = b ∧ (¬ s < 0 ∧ ¬ nI (nS N) ≤ s) ∧ ¬ l < nI 1 ∧ ¬ nI 999 < l ∧ nT N < 6 ∧ (¬ n < nI 1 ∧ ¬ nI 50 < n) ∧ ¬ w < 0 ∧ w ≤ nI 1
def nwS (N : Nt) (σ : Sd) (a b s l n : Nat) : Sd := yN N 0 (trA (trN N) (nT N) a b s l) (nT N + 1) none σ n
def nwV (N : Nt) (σ : Sd) (a b s l n : Nat) (w : Int32) : Int32 := if w = 0 then nI (hT N (nwS N σ a b s l n)) - nI (hA N σ (trN N) (nT N) n none) else nI (nwS N σ a b s l n 6 (nT N))
theorem nw_ok {a b s l : Nat} (hN : nOK N) (h6 : nT N < 6) (ha : a < nP N) (hb : b < nP N) (hs : s < nS N) (hab : a ≠ b) (h1 : 1 ≤ l) (h9 : l ≤ 999) : trOK N (nT N + 1) (trA (trN N) (nT N) a b s l) := by
  have ht := hN.tr.2
  refine ⟨by omega, fun t htt => ?_⟩
  unfold trA
  by_cases hc : t = nT N
  · simp only [if_pos hc]
    exact ⟨ha, hb, hs, h9, h1, hab⟩
  · simp only [if_neg hc]
    exact ht t (by omega)
theorem c_newcomer {a b s l n w : Int32} {b' y : Nat} (hT : Thr G) (hN : nOK N) (hB : Bd N σ b' y) (hb0 : 5300 ≤ b') (hb1 : b' < 100000) (hy : y + 50 ≤ 28000) (hC : Cs h N σ)
    (hq : nwG N a b s l n w → ∀ h', But h h' trP → Cs h' N σ → Q (.inl (some (.int (nwV N σ a.toNatClampNeg b.toNatClampNeg s.toNatClampNeg l.toNatClampNeg n.toNatClampNeg w)))) h')
    (hx : ¬ nwG N a b s l n w → ∀ h', But h h' trP → Cs h' N σ → Q (.inr h'.1) (h'.1 + 1, h'.2.1 + 6, h'.2.2)) : X G (d + 7) mX11_newcomer 0 (ax_in 9 [.ref 64, .int a, .int b, .int s, .int l, .int n, .int w]) [] h Q := by
  obtain ⟨⟨dr, e64⟩, ⟨⟨co, hl, e89, -⟩, -, -, -, -, -, e98, -⟩, -⟩ := id hC
  have hR := hN.2.2.1
  have hS5 := hN.1
  have hP7 := hN.2.1
  have hT6 := hN.2.2.2.1
  have thr : ¬ nwG N a b s l n w → ∀ o7, X G (d + 7) mX11_newcomer 89 [some (.ref 64), some (.int a), some (.int b), some (.int s), some (.int l), some (.int n), some (.int w), o7, none] [] h Q := fun z o7 =>
    ax_throwS (is := 252) (tx := "no such newcomer") hT rfl (by decide) rfl (Nat.le_of_ble_eq_true rfl) (by omega) dX11_newcomer_89 dX11_newcomer_92 dX11_newcomer_93 dX11_newcomer_95 dX11_newcomer_98 (hx z _ But.rf hC)
  have bad : ¬ nwG N a b s l n w → X G (d + 7) mX11_newcomer 62 [some (.ref 64), some (.int a), some (.int b), some (.int s), some (.int l), some (.int n), some (.int w), none, none] [] h Q := fun z => by
    refine ax_iconst dX11_newcomer_62 (v := nI 0) (by decide) ?_
    refine ax_istore dX11_newcomer_63 (Nat.le_of_ble_eq_true rfl) ?_
    refine ax_iload dX11_newcomer_65 rfl ?_
    refine ax_if_eqT 89 dX11_newcomer_67 (by decide) rfl ?_
    exact thr z _
  refine ax_aload_n dX11_newcomer_0 rfl ?_
  refine ax_iload_n dX11_newcomer_1 rfl ?_
  refine ax_cV dX11_newcomer_2 mmX11_isPlace lkX11_248 miX11_isPlace msX11_isPlace (ax_recv_of e64 rfl) rfl rfl (Nat.le_of_ble_eq_true rfl) (Nat.le_of_ble_eq_true rfl) rfl rfl (c_isPlace e64 e89 ⟨_, rfl, ?_⟩)
  by_cases g1 : ¬ a < 0 ∧ ¬ nI (nP N) ≤ a
  case neg =>
    rw [b1_f g1]
    refine ax_if_eqT 62 dX11_newcomer_5 (by decide) rfl ?_
    exact bad (fun q => g1 q.1)
  rw [b1_t g1]
  refine ax_if_eqF 62 dX11_newcomer_5 (by decide) (by decide) ?_
  refine ax_aload_n dX11_newcomer_8 rfl ?_
  refine ax_iload_n dX11_newcomer_9 rfl ?_
  refine ax_cV dX11_newcomer_10 mmX11_isPlace lkX11_248 miX11_isPlace msX11_isPlace (ax_recv_of e64 rfl) rfl rfl (Nat.le_of_ble_eq_true rfl) (Nat.le_of_ble_eq_true rfl) rfl rfl (c_isPlace e64 e89 ⟨_, rfl, ?_⟩)
  by_cases g2 : ¬ b < 0 ∧ ¬ nI (nP N) ≤ b
  case neg =>
    rw [b1_f g2]
    refine ax_if_eqT 62 dX11_newcomer_13 (by decide) rfl ?_
    exact bad (fun q => g2 q.2.1)
  rw [b1_t g2]
  refine ax_if_eqF 62 dX11_newcomer_13 (by decide) (by decide) ?_
  by_cases g3 : a = b
  case pos =>
    refine ax_iload_n dX11_newcomer_16 rfl ?_
    refine ax_iload_n dX11_newcomer_17 rfl ?_
    refine ax_icmp_eqT 62 dX11_newcomer_18 (by decide) g3 ?_
    exact bad (fun q => q.2.2.1 g3)
  refine ax_iload_n dX11_newcomer_16 rfl ?_
  refine ax_iload_n dX11_newcomer_17 rfl ?_
  refine ax_icmp_eqF 62 dX11_newcomer_18 (by decide) g3 ?_
  refine ax_aload_n dX11_newcomer_21 rfl ?_
  refine ax_iload_n dX11_newcomer_22 rfl ?_
  refine ax_cV dX11_newcomer_23 mmX11_isStuff lkX11_118 miX11_isStuff msX11_isStuff (ax_recv_of e64 rfl) rfl rfl (Nat.le_of_ble_eq_true rfl) (Nat.le_of_ble_eq_true rfl) rfl rfl (c_isStuff e64 e89 ⟨_, rfl, ?_⟩)
  by_cases g4 : ¬ s < 0 ∧ ¬ nI (nS N) ≤ s
  case neg =>
    rw [b1_f g4]
    refine ax_if_eqT 62 dX11_newcomer_26 (by decide) rfl ?_
    exact bad (fun q => g4 q.2.2.2.1)
  rw [b1_t g4]
  refine ax_if_eqF 62 dX11_newcomer_26 (by decide) (by decide) ?_
  by_cases g5 : l < nI 1
  case pos =>
    refine ax_iload dX11_newcomer_29 rfl ?_
    refine ax_iconst dX11_newcomer_31 (v := nI 1) (by decide) ?_
    refine ax_icmp_ltT 62 dX11_newcomer_32 (by decide) g5 ?_
    exact bad (fun q => q.2.2.2.2.1 g5)
  refine ax_iload dX11_newcomer_29 rfl ?_
  refine ax_iconst dX11_newcomer_31 (v := nI 1) (by decide) ?_
  refine ax_icmp_ltF 62 dX11_newcomer_32 (by decide) g5 ?_
  by_cases g6 : nI 999 < l
  case pos =>
    refine ax_iload dX11_newcomer_35 rfl ?_
    refine ax_sipush dX11_newcomer_37 (v := nI 999) (by decide) ?_
    refine ax_icmp_gtT 62 dX11_newcomer_40 (by decide) g6 ?_
    exact bad (fun q => q.2.2.2.2.2.1 g6)
  refine ax_iload dX11_newcomer_35 rfl ?_
  refine ax_sipush dX11_newcomer_37 (v := nI 999) (by decide) ?_
  refine ax_icmp_gtF 62 dX11_newcomer_40 (by decide) g6 ?_
  by_cases g7 : nT N < 6
  case neg =>
    refine ax_aload_n dX11_newcomer_43 rfl ?_
    refine ax_getf dX11_newcomer_44 flX11_39 e64 rfl ?_
    refine ax_getf dX11_newcomer_47 flX11_164 e89 rfl ?_
    refine ax_getf dX11_newcomer_50 flX11_251 e98 rfl ?_
    refine ax_bipush dX11_newcomer_53 (v := nI 6) (by decide) ?_
    refine ax_icmp_geT 62 dX11_newcomer_55 (by decide) (nI_le (by omega) (by omega)) ?_
    exact bad (fun q => g7 q.2.2.2.2.2.2.1)
  refine ax_aload_n dX11_newcomer_43 rfl ?_
  refine ax_getf dX11_newcomer_44 flX11_39 e64 rfl ?_
  refine ax_getf dX11_newcomer_47 flX11_164 e89 rfl ?_
  refine ax_getf dX11_newcomer_50 flX11_251 e98 rfl ?_
  refine ax_bipush dX11_newcomer_53 (v := nI 6) (by decide) ?_
  refine ax_icmp_geF 62 dX11_newcomer_55 (by decide) (nI_ge (by omega) (by omega)) ?_
  refine ax_iconst dX11_newcomer_58 (v := nI 1) (by decide) ?_
  refine ax_goto 63 dX11_newcomer_59 (by decide) ?_
  refine ax_istore dX11_newcomer_63 (Nat.le_of_ble_eq_true rfl) ?_
  refine ax_iload dX11_newcomer_65 rfl ?_
  refine ax_if_eqF 89 dX11_newcomer_67 (by decide) (by decide) ?_
  refine ax_iload dX11_newcomer_70 rfl ?_
  refine ax_cS dX11_newcomer_72 mmX11_isYears lkX11_213 mtX11_isYears rfl rfl (Nat.le_of_ble_eq_true rfl) (Nat.le_of_ble_eq_true rfl) rfl rfl (c_isYears ⟨_, rfl, ?_⟩)
  by_cases g8 : ¬ n < nI 1 ∧ ¬ nI 50 < n
  case neg =>
    rw [b1_f g8]
    refine ax_if_eqT 89 dX11_newcomer_75 (by decide) rfl ?_
    exact thr (fun q => g8 q.2.2.2.2.2.2.2.1) _
  rw [b1_t g8]
  refine ax_if_eqF 89 dX11_newcomer_75 (by decide) (by decide) ?_
  by_cases g9 : w < 0
  case pos =>
    refine ax_iload dX11_newcomer_78 rfl ?_
    refine ax_if_ltT 89 dX11_newcomer_80 (by decide) g9 ?_
    exact thr (fun q => q.2.2.2.2.2.2.2.2.1 g9) _
  refine ax_iload dX11_newcomer_78 rfl ?_
  refine ax_if_ltF 89 dX11_newcomer_80 (by decide) g9 ?_
  by_cases gA : w ≤ nI 1
  case neg =>
    refine ax_iload dX11_newcomer_83 rfl ?_
    refine ax_iconst dX11_newcomer_85 (v := nI 1) (by decide) ?_
    refine ax_icmp_leF 99 dX11_newcomer_86 (by decide) gA ?_
    exact thr (fun q => gA q.2.2.2.2.2.2.2.2.2) _
  refine ax_iload dX11_newcomer_83 rfl ?_
  refine ax_iconst dX11_newcomer_85 (v := nI 1) (by decide) ?_
  refine ax_icmp_leT 99 dX11_newcomer_86 (by decide) gA ?_
  have hq := hq ⟨g1, g2, g3, g4, g5, g6, g7, g8, g9, gA⟩
  obtain ⟨a', ha', rfl⟩ := nI_of g1.1
  obtain ⟨b2, hb2', rfl⟩ := nI_of g2.1
  obtain ⟨s', hs', rfl⟩ := nI_of g4.1
  obtain ⟨l', hl', rfl⟩ := nI_of (show ¬ l < 0 from fun q => g5 (Int32.lt_of_lt_of_le q (nI_pos' (by decide))))
  obtain ⟨n', hn', rfl⟩ := nI_of (show ¬ n < 0 from fun q => g8.1 (Int32.lt_of_lt_of_le q (nI_pos' (by decide))))
  rw [nI_clamp ha', nI_clamp hb2', nI_clamp hs', nI_clamp hl', nI_clamp hn'] at hq
  have k1 : a' < nP N := Nat.lt_of_not_le (fun q => g1.2 (nI_le q (by omega)))
  have k2 : b2 < nP N := Nat.lt_of_not_le (fun q => g2.2 (nI_le q (by omega)))
  have k4 : s' < nS N := Nat.lt_of_not_le (fun q => g4.2 (nI_le q (by omega)))
  have k5 : 1 ≤ l' := Nat.le_of_not_lt (fun q => g5 (nI_lt q (by omega)))
  have k6 : l' ≤ 999 := Nat.le_of_not_lt (fun q => g6 (nI_lt q (by omega)))
  have k8 : n' ≤ 50 := Nat.le_of_not_lt (fun q => g8.2 (nI_lt q (by omega)))
  have htr := nw_ok (a := a') (b := b2) (s := s') (l := l') hN g7 k1 k2 k4 (fun q => g3 (by rw [q])) k5 k6
  have rest : ∀ (h0 : ax_H) (x8 : Int32), But h h0 trP → Cs h0 N σ → (w = 0 → x8 = nI (hA N σ (trN N) (nT N) n' none)) → X G (d + 7) mX11_newcomer 116 [some (.ref 64), some (.int (nI a')), some (.int (nI b2)), some (.int (nI s')), some (.int (nI l')), some (.int (nI n')), some (.int w), some (.int (nI 1)), some (.int x8)] [] h0 Q := by
    intro h0 x8 hb0' hC0 hx8
    obtain ⟨⟨dr, e64⟩, -⟩ := id hC0
    refine ax_aload_n dX11_newcomer_116 rfl ?_
    refine ax_cV dX11_newcomer_117 mmX11_beginTrial lkX11_236 miX11_beginTrial msX11_beginTrial (ax_recv_of e64 rfl) rfl rfl (Nat.le_of_ble_eq_true rfl) (Nat.le_of_ble_eq_true rfl) rfl rfl (c_beginTrial (d := d + 4) hN hC0 (fun h1 hb1' hE1 hT1 hC1 => ⟨_, rfl, ?_⟩))
    obtain ⟨⟨dr, e64⟩, -⟩ := id hC1
    have e124 := hT1.1
    refine ax_aload_n dX11_newcomer_120 rfl ?_
    refine ax_getf dX11_newcomer_121 flX11_57 e64 rfl ?_
    refine ax_iload_n dX11_newcomer_124 rfl ?_
    refine ax_iload_n dX11_newcomer_125 rfl ?_
    refine ax_iload_n dX11_newcomer_126 rfl ?_
    refine ax_iload dX11_newcomer_127 rfl ?_
    refine ax_cV dX11_newcomer_129 mmX8_add lkX11_258 miX8_add msX8_add (ax_recv_of e124 rfl) rfl rfl (Nat.le_of_ble_eq_true rfl) (Nat.le_of_ble_eq_true rfl) rfl rfl (c_trAdd g7 hT1 (fun h2 hb2 hT2 => ⟨_, rfl, ?_⟩))
    have hC2 : Cs h2 N σ := hC1.after (hb2.wide (fun j z => Or.inl (by omega))) (hC1.2.2.2.1.kept (fun j z1 z2 => hb2.2.2 j (by omega))) hT2.any (hC1.2.2.2.2.2.kept (fun j z1 z2 => hb2.2.2 j (by omega)))
    have hE2 : StIs h2 115 0 N σ := hE1.kept (fun j z1 z2 => hb2.2.2 j (by omega))
    obtain ⟨⟨dr, e64⟩, -⟩ := id hC2
    refine ax_aload_n dX11_newcomer_132 rfl ?_
    refine ax_iload dX11_newcomer_133 rfl ?_
    refine ax_iconst dX11_newcomer_135 (v := -1) (by decide) ?_
    refine ax_cV dX11_newcomer_136 mmX11_passTrial lkX11_262 miX11_passTrial msX11_passTrial (ax_recv_of e64 rfl) rfl rfl (Nat.le_of_ble_eq_true rfl) (Nat.le_of_ble_eq_true rfl) rfl rfl (c_passTrial (d := d + 1) (sw := none) (fun r' hr' => by cases hr') htr hN hB hb0 hb1 (by omega) hC2 hT2 hE2 (fun h3 hb3 hC3 hT3 hE3 => ⟨_, rfl, ?_⟩))
    obtain ⟨⟨dr, e64⟩, hL3, -⟩ := id hC3
    have hB3 := hB.years (kp := 0) (sw := none) hN htr hb0 n'
    have hbb : But h h3 trP := hb0'.tr ((hb1'.wide (fun j z => Or.inl z)).tr ((hb2.wide (fun j z => Or.inl (by omega))).tr hb3))
    have hq3 := hq h3 hbb hC3
    unfold nwV nwS at hq3
    by_cases hw : w = 0
    · rw [if_pos hw] at hq3
      rw [hx8 hw]
      refine ax_iload dX11_newcomer_139 rfl ?_
      refine ax_if_neF 158 dX11_newcomer_141 (by decide) hw ?_
      refine ax_aload_n dX11_newcomer_144 rfl ?_
      refine ax_aload_n dX11_newcomer_145 rfl ?_
      refine ax_getf dX11_newcomer_146 flX11_51 e64 rfl ?_
      refine ax_cV dX11_newcomer_149 mmX11_holesTogether lkX11_266 miX11_holesTogether msX11_holesTogether (ax_recv_of e64 rfl) rfl rfl (Nat.le_of_ble_eq_true rfl) (Nat.le_of_ble_eq_true rfl) rfl rfl (c_holesTogether (d := d + 5) hN (fun r hr => by have := hB3.1 r hr; omega) e64 hL3 hE3 ⟨_, rfl, ?_⟩)
      refine ax_iload dX11_newcomer_152 rfl ?_
      refine ax_isub dX11_newcomer_154 ?_
      refine ax_goto 176 dX11_newcomer_155 (by decide) ?_
      exact ax_ireturn dX11_newcomer_176 rfl hq3
    · rw [if_neg hw] at hq3
      obtain ⟨e115, -, -, -, -, -, ⟨f6, e121, q6⟩, -⟩ := id hE3
      obtain ⟨⟨co, hl, e89, -⟩, -, -, -, -, -, e98, -⟩ := id hL3
      refine ax_iload dX11_newcomer_139 rfl ?_
      refine ax_if_neT 158 dX11_newcomer_141 (by decide) hw ?_
      refine ax_aload_n dX11_newcomer_158 rfl ?_
      refine ax_getf dX11_newcomer_159 flX11_51 e64 rfl ?_
      refine ax_getf dX11_newcomer_162 flX11_182 e115 rfl ?_
      refine ax_aload_n dX11_newcomer_165 rfl ?_
      refine ax_getf dX11_newcomer_166 flX11_39 e64 rfl ?_
      refine ax_getf dX11_newcomer_169 flX11_164 e89 rfl ?_
      refine ax_getf dX11_newcomer_172 flX11_251 e98 rfl ?_
      refine ax_iald dX11_newcomer_175 e121 (ax_ix_nI (j := nT N) g7 (by omega)) ?_
      rw [q6 (nT N) g7]
      exact ax_ireturn dX11_newcomer_176 rfl hq3
  by_cases hw : w = 0
  · refine ax_iload dX11_newcomer_99 rfl ?_
    refine ax_if_neF 113 dX11_newcomer_101 (by decide) hw ?_
    refine ax_aload_n dX11_newcomer_104 rfl ?_
    refine ax_iload dX11_newcomer_105 rfl ?_
    refine ax_cV dX11_newcomer_107 mmX11_holesAsTold lkX11_254 miX11_holesAsTold msX11_holesAsTold (ax_recv_of e64 rfl) rfl rfl (Nat.le_of_ble_eq_true rfl) (Nat.le_of_ble_eq_true rfl) rfl rfl (c_holesAsTold (d := d) hN hB hb0 hb1 (by omega) hC (fun h0 hb0' hC0 => ⟨_, rfl, ?_⟩))
    refine ax_goto 114 dX11_newcomer_110 (by decide) ?_
    refine ax_istore dX11_newcomer_114 (Nat.le_of_ble_eq_true rfl) ?_
    exact rest _ _ hb0' hC0 (fun _ => rfl)
  · refine ax_iload dX11_newcomer_99 rfl ?_
    refine ax_if_neT 113 dX11_newcomer_101 (by decide) hw ?_
    refine ax_iconst dX11_newcomer_113 (v := nI 0) (by decide) ?_
    refine ax_istore dX11_newcomer_114 (Nat.le_of_ble_eq_true rfl) ?_
    exact rest _ _ But.rf hC (fun z => absurd z hw)
end CT3
