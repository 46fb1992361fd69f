section CA3
variable {G : ax_G} {d : Nat} {h : ax_H} {Q : ax_O → ax_H → Prop} {N : Nt} {σ : Sd}
def qWay (N : Nt) (σ : Sd) (x i : Int32) : Int32 := match ixN (nT N) x with
  | none => -1
  | some t => if (wyT N σ t).2 = some (N.1 7 t) then (match ixN (wyT N σ t).1.length i with
    | none => -1
    | some j => nI ((wyT N σ t).1.getD j 0)) else -1
theorem c_way {x i : Int32} (hN : nOK N) (hO : sOK N σ) (hC : Cs h N σ) (hq : ∀ h', But h h' trP → Cs h' N σ → Q (.inl (some (.int (qWay N σ x i)))) h') : X G (d + 5) mX11_way 0 (ax_in 3 [.ref 64, .int x, .int i]) [] h Q := by
  obtain ⟨⟨dr, e64⟩, ⟨⟨co, hl, e89, -⟩, -, -, -, -, -, e98, -⟩, -⟩ := id hC
  have hT6 := hN.2.2.2.1
  refine ax_aload_n dX11_way_0 rfl ?_
  refine ax_iload_n dX11_way_1 rfl ?_
  refine ax_cV dX11_way_2 mmX11_isTrade lkX11_161 miX11_isTrade msX11_isTrade (ax_recv_of e64 rfl) rfl rfl (Nat.le_of_ble_eq_true rfl) (Nat.le_of_ble_eq_true rfl) rfl rfl (c_isTrade e64 e89 e98 ⟨_, rfl, ?_⟩)
  unfold qWay at hq
  rcases ix_cases (n := nT N) (by omega) x with ⟨hs, hb, -⟩ | ⟨t, ht, rfl, hs, hb⟩
  · rw [hs] at hq
    rw [hb]
    refine ax_if_eqT 31 dX11_way_5 (by decide) rfl ?_
    refine ax_iconst dX11_way_31 (v := -1) (by decide) ?_
    exact ax_ireturn dX11_way_32 rfl (hq _ But.rf hC)
  · rw [hs] at hq
    rw [hb]
    refine ax_if_eqF 31 dX11_way_5 (by decide) (by decide) ?_
    refine ax_aload_n dX11_way_8 rfl ?_
    refine ax_iload_n dX11_way_9 rfl ?_
    refine ax_cV dX11_way_10 mmX11_findWayNow lkX11_185 miX11_findWayNow msX11_findWayNow (ax_recv_of e64 rfl) rfl rfl (Nat.le_of_ble_eq_true rfl) (Nat.le_of_ble_eq_true rfl) rfl rfl (c_findWayNow (d := d) ht hN hO hC (fun h1 hb1 hC1 hw => ⟨_, rfl, ?_⟩))
    obtain ⟨⟨dr, e64⟩, -, -, -, -, hS1⟩ := id hC1
    by_cases hc : (wyT N σ t).2 = some (N.1 7 t)
    · obtain ⟨e138, ⟨f9, e139, q9⟩, hl7⟩ := hw hc
      rw [b1_t hc]
      have hq1 := hq h1 hb1 hC1
      dsimp only at hq1
      rw [if_pos hc] at hq1
      refine ax_if_eqF 31 dX11_way_13 (by decide) (by decide) ?_
      rcases ix_cases (n := (wyT N σ t).1.length) (by omega) i with ⟨hw, hb, ho⟩ | ⟨j, hj, rfl, hw, hb⟩
      · rw [hw] at hq1
        rcases ho with q | q
        · refine ax_iload_n dX11_way_16 rfl ?_
          refine ax_if_ltT 31 dX11_way_17 (by decide) q ?_
          refine ax_iconst dX11_way_31 (v := -1) (by decide) ?_
          exact ax_ireturn dX11_way_32 rfl hq1
        · by_cases h0 : i < 0
          · refine ax_iload_n dX11_way_16 rfl ?_
            refine ax_if_ltT 31 dX11_way_17 (by decide) h0 ?_
            refine ax_iconst dX11_way_31 (v := -1) (by decide) ?_
            exact ax_ireturn dX11_way_32 rfl hq1
          · refine ax_iload_n dX11_way_16 rfl ?_
            refine ax_if_ltF 31 dX11_way_17 (by decide) h0 ?_
            refine ax_iload_n dX11_way_20 rfl ?_
            refine ax_aload_n dX11_way_21 rfl ?_
            refine ax_getf dX11_way_22 flX11_83 e64 rfl ?_
            refine ax_getf dX11_way_25 flX11_188 e138 rfl ?_
            refine ax_icmp_ltF 33 dX11_way_28 (by decide) (Int32.not_lt.mpr q) ?_
            refine ax_iconst dX11_way_31 (v := -1) (by decide) ?_
            exact ax_ireturn dX11_way_32 rfl hq1
      · rw [hw] at hq1
        refine ax_iload_n dX11_way_16 rfl ?_
        refine ax_if_ltF 31 dX11_way_17 (by decide) (nI_pos (by omega)) ?_
        refine ax_iload_n dX11_way_20 rfl ?_
        refine ax_aload_n dX11_way_21 rfl ?_
        refine ax_getf dX11_way_22 flX11_83 e64 rfl ?_
        refine ax_getf dX11_way_25 flX11_188 e138 rfl ?_
        refine ax_icmp_ltT 33 dX11_way_28 (by decide) (nI_lt hj (by omega)) ?_
        refine ax_aload_n dX11_way_33 rfl ?_
        refine ax_getf dX11_way_34 flX11_83 e64 rfl ?_
        refine ax_getf dX11_way_37 flX11_191 e138 rfl ?_
        refine ax_iload_n dX11_way_40 rfl ?_
        refine ax_iald dX11_way_41 e139 (ax_ix_nI (by omega) (by decide)) ?_
        rw [q9 j hj]
        exact ax_ireturn dX11_way_42 rfl hq1
    · rw [b1_f hc]
      have hq1 := hq h1 hb1 hC1
      dsimp only at hq1
      rw [if_neg hc] at hq1
      refine ax_if_eqT 31 dX11_way_13 (by decide) rfl ?_
      refine ax_iconst dX11_way_31 (v := -1) (by decide) ?_
      exact ax_ireturn dX11_way_32 rfl hq1
/-- years: the answer, and the state behind -/
def sYears (N : Nt) (σ : Sd) (x : Int32) : Sd := match yrs x with
  | none => σ
  | some n => yN N 40 (trN N) (nT N) none σ n
def qYears (σ : Sd) (x : Int32) : Int32 := match yrs x with
  | none => -1
  | some n => nI (σ 0 0 + n)
theorem yN_y {kp T : Nat} {tr : Nat → Nat → Nat} {sw : Option Nat} : ∀ n, yN N kp tr T sw σ n 0 0 = σ 0 0 + n
  | 0 => rfl
  | n + 1 => by
    show yN N kp tr T sw σ n 0 0 + 1 = _
    rw [yN_y n]
    omega
/-- what years may write -/
def yrP : Nat → Prop := fun j => (106 ≤ j ∧ j ≤ 114) ∨ (132 ≤ j ∧ j ≤ 144)
theorem c_years {x : Int32} {b y : Nat} (hN : nOK N) (hB : Bd N σ b y) (hb0 : 5300 ≤ b) (hb1 : b < 100000) (hy : y + 50 ≤ 28000) (hC : Cs h N σ) (hq : ∀ h', But h h' yrP → Cs h' N (sYears N σ x) → Q (.inl (some (.int (qYears σ x)))) h') : X G (d + 5) mX11_years 0 (ax_in 3 [.ref 64, .int x]) [] h Q := by
  refine ax_iload_n dX11_years_0 rfl ?_
  refine ax_cS dX11_years_1 mmX11_isYears lkX11_213 mtX11_isYears rfl rfl (Nat.le_of_ble_eq_true rfl) (Nat.le_of_ble_eq_true rfl) rfl rfl (c_isYears ⟨_, rfl, ?_⟩)
  unfold qYears sYears at hq
  rcases yrs_cases x with ⟨hs, hb⟩ | ⟨n, hn1, hn50, rfl, hs, hb⟩
  · rw [hs] at hq
    rw [hb]
    refine ax_if_neF 9 dX11_years_4 (by decide) rfl ?_
    refine ax_iconst dX11_years_7 (v := -1) (by decide) ?_
    exact ax_ireturn dX11_years_8 rfl (hq _ But.rf hC)
  · rw [hs] at hq
    rw [hb]
    dsimp only at hq
    have loop : ∀ (m i : Nat) (h1 : ax_H), i + m = n → But h h1 yrP → Cs h1 N (yN N 40 (trN N) (nT N) none σ i) → X G (d + 5) mX11_years 11 [some (.ref 64), some (.int (nI n)), some (.int (nI i))] [] h1 Q := by
      intro m
      induction m with
      | zero =>
        intro i h1 hi hbb hC1
        obtain rfl : i = n := by omega
        have hC1' := id hC1
        obtain ⟨⟨dr, e64⟩, -, ⟨e106, -⟩, -⟩ := hC1'
        rw [yN_y] at e106
        refine ax_iload_n dX11_years_11 rfl ?_
        refine ax_iload_n dX11_years_12 rfl ?_
        refine ax_icmp_geT 41 dX11_years_13 (by decide) (Int32.le_refl _) ?_
        refine ax_aload_n dX11_years_41 rfl ?_
        refine ax_getf dX11_years_42 flX11_47 e64 rfl ?_
        refine ax_getf dX11_years_45 flX11_220 e106 rfl ?_
        exact ax_ireturn dX11_years_48 rfl (hq _ hbb hC1)
      | succ m ih =>
        intro i h1 hi hbb hC1
        obtain ⟨⟨dr, e64⟩, hL1, hE1, hA1, hT1, hS1⟩ := id hC1
        obtain ⟨⟨co, hl, e89, -⟩, -, -, -, -, -, e98, -⟩ := id hL1
        obtain ⟨cm, e142⟩ := hS1.2.2.2.2.2.2.2.2.1
        have hBi := hB.years (kp := 40) (sw := none) hN hN.tr hb0 i
        have h5 := hBi.2.2.2.2
        refine ax_iload_n dX11_years_11 rfl ?_
        refine ax_iload_n dX11_years_12 rfl ?_
        refine ax_icmp_geF 41 dX11_years_13 (by decide) (nI_ge (by omega) (by omega)) ?_
        refine ax_aload_n dX11_years_16 rfl ?_
        refine ax_getf dX11_years_17 flX11_92 e64 rfl ?_
        refine ax_aload_n dX11_years_20 rfl ?_
        refine ax_getf dX11_years_21 flX11_47 e64 rfl ?_
        refine ax_aload_n dX11_years_24 rfl ?_
        refine ax_getf dX11_years_25 flX11_39 e64 rfl ?_
        refine ax_getf dX11_years_28 flX11_164 e89 rfl ?_
        refine ax_iconst dX11_years_31 (v := -1) (by decide) ?_
        refine ax_cV dX11_years_32 mmX10_pass lkX11_216 miX10_pass msX10_pass (ax_recv_of e142 rfl) rfl rfl (Nat.le_of_ble_eq_true rfl) (Nat.le_of_ble_eq_true rfl) rfl rfl (c_pass (d := d) (sw := none) (Or.inl rfl) (by omega) (Or.inl rfl) (fun r hr => by cases hr) hN.tr hN (hBi.ok hb1 (by omega)) hBi.2.2.2.1 (by omega) hL1 hL1.tr hE1 hS1 (fun h2 hb2 hS2 hE2 e142 => ⟨_, rfl, ?_⟩))
        refine ax_iinc dX11_years_35 rfl (ax_inc 1) ?_
        refine ax_goto 11 dX11_years_38 (by decide) ?_
        rw [nI_add]
        have kp2 : ∀ j, ¬ paP 106 j → h2.2.2 j = h1.2.2 j := hb2.2.2
        exact ih (i + 1) h2 (by omega) (hbb.tr (hb2.wide (fun j z => by unfold paP at z; unfold yrP; omega))) ⟨⟨dr, (kp2 64 (by unfold paP; omega)).trans e64⟩, hL1.kept (fun j z1 z2 => kp2 j (by unfold paP; omega)), hE2, hA1.kept (fun j z1 z2 => kp2 j (by unfold paP; omega)), hT1.kept (fun j z1 z2 => kp2 j (by unfold paP; omega)), hS2⟩
    refine ax_if_neT 9 dX11_years_4 (by decide) (by decide) ?_
    refine ax_iconst dX11_years_9 (v := nI 0) (by decide) ?_
    refine ax_istore_n dX11_years_10 (Nat.le_of_ble_eq_true rfl) ?_
    exact loop n 0 h (by omega) But.rf hC
/-- a row of the state is changed at one place -/
def sUp (σ : Sd) (q c v : Nat) : Sd := fun i j => if i = q then upN (σ q) c v j else σ i j
theorem isA_up {n : Nat} {g : Nat → Nat} {f : Nat → Int32} {i v : Nat} (hf : ∀ j, j < n → f j = nI (g j)) : ∀ j, j < n → upd f i (nI v) j = nI (upN g i v j) := fun j hj => by
  unfold upd upN
  by_cases hc : j = i
  · rw [if_pos hc, if_pos hc]
  · rw [if_neg hc, if_neg hc]; exact hf j hj
def sLose (N : Nt) (σ : Sd) (x y p : Int32) : Option Sd := match ixN (nR N) x, ixN (nS N) y, ixN 100 p with
  | some r, some s, some v => some (sUp σ 3 (5 * r + s) v)
  | _, _, _ => none
theorem c_lose {x y p : Int32} (hN : nOK N) (hC : Cs h N σ) (hq : ∀ h', But h h' (fun j => j = 109) → Cs h' N ((sLose N σ x y p).getD σ) → Q (.inl (some (.int (b1 ((sLose N σ x y p).isSome = true))))) h') : X G (d + 1) mX11_lose 0 (ax_in 4 [.ref 64, .int x, .int y, .int p]) [] h Q := by
  obtain ⟨⟨dr, e64⟩, hL, hE, hA, hT, hS⟩ := id hC
  obtain ⟨⟨co, hl, e89, -⟩, -⟩ := id hL
  obtain ⟨e106, a1, a2, ⟨f3, e109, q3⟩, a4, ⟨f5, e5, q5⟩, a6, a7, ⟨f8, e8, q8⟩⟩ := id hE
  have hR := hN.2.2.1
  have hS5 := hN.1
  refine ax_aload_n dX11_lose_0 rfl ?_
  refine ax_iload_n dX11_lose_1 rfl ?_
  refine ax_cV dX11_lose_2 mmX11_isRoad lkX11_132 miX11_isRoad msX11_isRoad (ax_recv_of e64 rfl) rfl rfl (Nat.le_of_ble_eq_true rfl) (Nat.le_of_ble_eq_true rfl) rfl rfl (c_isRoad e64 e89 ⟨_, rfl, ?_⟩)
  unfold sLose at hq
  rcases ix_cases (n := nR N) (by omega) x with ⟨hs, hb, -⟩ | ⟨r, hr, rfl, hs, hb⟩
  · rw [hs] at hq
    rw [hb]
    refine ax_if_eqT 26 dX11_lose_5 (by decide) rfl ?_
    refine ax_iconst dX11_lose_26 (v := nI 0) (by decide) ?_
    exact ax_zreturn dX11_lose_27 rfl (Or.inl rfl) (hq _ But.rf hC)
  · rw [hs] at hq
    rw [hb]
    refine ax_if_eqF 26 dX11_lose_5 (by decide) (by decide) ?_
    refine ax_aload_n dX11_lose_8 rfl ?_
    refine ax_iload_n dX11_lose_9 rfl ?_
    refine ax_cV dX11_lose_10 mmX11_isStuff lkX11_118 miX11_isStuff msX11_isStuff (ax_recv_of e64 rfl) rfl rfl (Nat.le_of_ble_eq_true rfl) (Nat.le_of_ble_eq_true rfl) rfl rfl (c_isStuff e64 e89 ⟨_, rfl, ?_⟩)
    rcases ix_cases (n := nS N) (by omega) y with ⟨hw, hb, -⟩ | ⟨s, hs', rfl, hw, hb⟩
    · rw [hw] at hq
      rw [hb]
      refine ax_if_eqT 26 dX11_lose_13 (by decide) rfl ?_
      refine ax_iconst dX11_lose_26 (v := nI 0) (by decide) ?_
      exact ax_zreturn dX11_lose_27 rfl (Or.inl rfl) (hq _ But.rf hC)
    · rw [hw] at hq
      rw [hb]
      refine ax_if_eqF 26 dX11_lose_13 (by decide) (by decide) ?_
      rcases ix_cases (n := 100) (by omega) p with ⟨hz, hb, ho⟩ | ⟨v, hv, rfl, hz, hb⟩
      · rw [hz] at hq
        by_cases h0 : p < 0
        · refine ax_iload_n dX11_lose_16 rfl ?_
          refine ax_if_ltT 26 dX11_lose_17 (by decide) h0 ?_
          refine ax_iconst dX11_lose_26 (v := nI 0) (by decide) ?_
          exact ax_zreturn dX11_lose_27 rfl (Or.inl rfl) (hq _ But.rf hC)
        · have h1 : nI 100 ≤ p := ho.resolve_left h0
          refine ax_iload_n dX11_lose_16 rfl ?_
          refine ax_if_ltF 26 dX11_lose_17 (by decide) h0 ?_
          refine ax_iload_n dX11_lose_20 rfl ?_
          refine ax_bipush dX11_lose_21 (v := nI 99) (by decide) ?_
          refine ax_icmp_leF 28 dX11_lose_23 (by decide) (Int32.not_le.mpr (Int32.lt_of_lt_of_le (by decide) h1)) ?_
          refine ax_iconst dX11_lose_26 (v := nI 0) (by decide) ?_
          exact ax_zreturn dX11_lose_27 rfl (Or.inl rfl) (hq _ But.rf hC)
      · rw [hz] at hq
        refine ax_iload_n dX11_lose_16 rfl ?_
        refine ax_if_ltF 26 dX11_lose_17 (by decide) (nI_pos (by omega)) ?_
        refine ax_iload_n dX11_lose_20 rfl ?_
        refine ax_bipush dX11_lose_21 (v := nI 99) (by decide) ?_
        refine ax_icmp_leT 28 dX11_lose_23 (by decide) (nI_le (by omega) (by omega)) ?_
        refine ax_aload_n dX11_lose_28 rfl ?_
        refine ax_getf dX11_lose_29 flX11_47 e64 rfl ?_
        refine ax_getf dX11_lose_32 flX11_223 e106 rfl ?_
        refine ax_iload_n dX11_lose_35 rfl ?_
        refine ax_iload_n dX11_lose_36 rfl ?_
        refine ax_cS dX11_lose_37 mmX11_cell lkX11_157 mtX11_cell rfl rfl (Nat.le_of_ble_eq_true rfl) (Nat.le_of_ble_eq_true rfl) rfl rfl (c_cellN ⟨_, rfl, ?_⟩)
        refine ax_iload_n dX11_lose_40 rfl ?_
        refine ax_iast dX11_lose_41 e109 (ax_ix_nI (by omega) (by decide)) ?_
        refine ax_iconst dX11_lose_42 (v := nI 1) (by decide) ?_
        have kp : ∀ j, j ≠ 109 → (ax_wr h 109 (eI 50 (upd f3 (5 * r + s) (nI v)))).2.2 j = h.2.2 j := fun j z => ax_wr_ne z
        exact ax_zreturn dX11_lose_43 rfl (Or.inr rfl) (hq _ (But.rf.wr rfl) ⟨⟨dr, (kp _ (by decide)).trans e64⟩, hL.kept (fun j z1 z2 => kp j (by omega)), ⟨(kp _ (by decide)).trans e106, a1.kept (kp _ (by decide)), a2.kept (kp _ (by decide)), ⟨_, ax_wr_eq, isA_up q3⟩, a4.kept (kp _ (by decide)), ⟨f5, (kp _ (by decide)).trans e5, q5⟩, a6.kept (kp _ (by decide)), a7.kept (kp _ (by decide)), ⟨f8, (kp _ (by decide)).trans e8, q8⟩⟩, hA.kept (fun j z1 z2 => kp j (by omega)), hT.kept (fun j z1 z2 => kp j (by omega)), hS.kept (fun j z1 z2 => kp j (by omega))⟩)
def sTold (N : Nt) (σ : Sd) (x p : Int32) : Option Sd := match ixN (nS N) x, ixN 10000 p with
  | some s, some v => some (sUp σ 7 s v)
  | _, _ => none
theorem c_told {x p : Int32} (hN : nOK N) (hC : Cs h N σ) (hq : ∀ h', But h h' (fun j => j = 113) → Cs h' N ((sTold N σ x p).getD σ) → Q (.inl (some (.int (b1 ((sTold N σ x p).isSome = true))))) h') : X G (d + 1) mX11_told 0 (ax_in 3 [.ref 64, .int x, .int p]) [] h Q := by
  obtain ⟨⟨dr, e64⟩, hL, hE, hA, hT, hS⟩ := id hC
  obtain ⟨⟨co, hl, e89, -⟩, -⟩ := id hL
  obtain ⟨e106, a1, a2, a3, a4, ⟨f5, e5, q5⟩, a6, ⟨f7, e113, q7⟩, ⟨f8, e8, q8⟩⟩ := id hE
  have hS5 := hN.1
  refine ax_aload_n dX11_told_0 rfl ?_
  refine ax_iload_n dX11_told_1 rfl ?_
  refine ax_cV dX11_told_2 mmX11_isStuff lkX11_118 miX11_isStuff msX11_isStuff (ax_recv_of e64 rfl) rfl rfl (Nat.le_of_ble_eq_true rfl) (Nat.le_of_ble_eq_true rfl) rfl rfl (c_isStuff e64 e89 ⟨_, rfl, ?_⟩)
  unfold sTold at hq
  rcases ix_cases (n := nS N) (by omega) x with ⟨hs, hb, -⟩ | ⟨s, hs', rfl, hs, hb⟩
  · rw [hs] at hq
    rw [hb]
    refine ax_if_eqT 19 dX11_told_5 (by decide) rfl ?_
    refine ax_iconst dX11_told_19 (v := nI 0) (by decide) ?_
    exact ax_zreturn dX11_told_20 rfl (Or.inl rfl) (hq _ But.rf hC)
  · rw [hs] at hq
    rw [hb]
    refine ax_if_eqF 19 dX11_told_5 (by decide) (by decide) ?_
    rcases ix_cases (n := 10000) (by omega) p with ⟨hz, hb, ho⟩ | ⟨v, hv, rfl, hz, hb⟩
    · rw [hz] at hq
      by_cases h0 : p < 0
      · refine ax_iload_n dX11_told_8 rfl ?_
        refine ax_if_ltT 19 dX11_told_9 (by decide) h0 ?_
        refine ax_iconst dX11_told_19 (v := nI 0) (by decide) ?_
        exact ax_zreturn dX11_told_20 rfl (Or.inl rfl) (hq _ But.rf hC)
      · have h1 : nI 10000 ≤ p := ho.resolve_left h0
        refine ax_iload_n dX11_told_8 rfl ?_
        refine ax_if_ltF 19 dX11_told_9 (by decide) h0 ?_
        refine ax_iload_n dX11_told_12 rfl ?_
        refine ax_sipush dX11_told_13 (v := nI 9999) (by decide) ?_
        refine ax_icmp_leF 21 dX11_told_16 (by decide) (Int32.not_le.mpr (Int32.lt_of_lt_of_le (by decide) h1)) ?_
        refine ax_iconst dX11_told_19 (v := nI 0) (by decide) ?_
        exact ax_zreturn dX11_told_20 rfl (Or.inl rfl) (hq _ But.rf hC)
    · rw [hz] at hq
      refine ax_iload_n dX11_told_8 rfl ?_
      refine ax_if_ltF 19 dX11_told_9 (by decide) (nI_pos (by omega)) ?_
      refine ax_iload_n dX11_told_12 rfl ?_
      refine ax_sipush dX11_told_13 (v := nI 9999) (by decide) ?_
      refine ax_icmp_leT 21 dX11_told_16 (by decide) (nI_le (by omega) (by omega)) ?_
      refine ax_aload_n dX11_told_21 rfl ?_
      refine ax_getf dX11_told_22 flX11_47 e64 rfl ?_
      refine ax_getf dX11_told_25 flX11_272 e106 rfl ?_
      refine ax_iload_n dX11_told_28 rfl ?_
      refine ax_iload_n dX11_told_29 rfl ?_
      refine ax_iast dX11_told_30 e113 (ax_ix_nI (by omega) (by decide)) ?_
      refine ax_iconst dX11_told_31 (v := nI 1) (by decide) ?_
      have kp : ∀ j, j ≠ 113 → (ax_wr h 113 (eI 5 (upd f7 s (nI v)))).2.2 j = h.2.2 j := fun j z => ax_wr_ne z
      exact ax_zreturn dX11_told_32 rfl (Or.inr rfl) (hq _ (But.rf.wr rfl) ⟨⟨dr, (kp _ (by decide)).trans e64⟩, hL.kept (fun j z1 z2 => kp j (by omega)), ⟨(kp _ (by decide)).trans e106, a1.kept (kp _ (by decide)), a2.kept (kp _ (by decide)), a3.kept (kp _ (by decide)), a4.kept (kp _ (by decide)), ⟨f5, (kp _ (by decide)).trans e5, q5⟩, a6.kept (kp _ (by decide)), ⟨_, ax_wr_eq, isA_up q7⟩, ⟨f8, (kp _ (by decide)).trans e8, q8⟩⟩, hA.kept (fun j z1 z2 => kp j (by omega)), hT.kept (fun j z1 z2 => kp j (by omega)), hS.kept (fun j z1 z2 => kp j (by omega))⟩)
end CA3
