/-! ===== LostRoads: the helpers ===== -/
section HP
variable {G : ax_G} {d : Nat} {h : ax_H} {Q : ax_O → ax_H → Prop} {N : Nt} {σ : Sd}
def trN (N : Nt) : Nat → Nat → Nat := fun i => N.1 (6 + i)
theorem Land.tr (hL : Land h N) : TrIs h 98 (nT N) (trN N) := by
  obtain ⟨-, -, -, -, -, -, e2, a6, a7, a8, a9, -⟩ := hL
  exact ⟨e2, a6, a7, a8, a9⟩
theorem nOK.tr (hN : nOK N) : trOK N (nT N) (trN N) := by
  obtain ⟨-, -, -, h4, -, -, h7, -⟩ := hN
  exact ⟨h4, fun t ht => by obtain ⟨q1, q2, q3, q4, q5, q6⟩ := h7 t ht; exact ⟨q1, q2, q4, q6, q5, q3⟩⟩
theorem Scr.kept {h' : ax_H} (a : Scr h) (hk : ∀ j, 131 ≤ j → j ≤ 144 → h'.2.2 j = h.2.2 j) : Scr h' := by
  obtain ⟨g1, g2, g3, g4, g5, g6, g7, g8, ⟨cm, g9⟩, g10, g11⟩ := a
  exact ⟨(hk _ (by omega) (by omega)).trans g1, g2.kept (hk _ (by omega) (by omega)), g3.kept (hk _ (by omega) (by omega)), g4.kept (hk _ (by omega) (by omega)), g5.kept (hk _ (by omega) (by omega)), g6.kept (hk _ (by omega) (by omega)), g7.kept (hk _ (by omega) (by omega)), g8.kept (fun j z1 z2 => hk j (by omega) (by omega)), ⟨cm, (hk _ (by omega) (by omega)).trans g9⟩, g10.kept (hk _ (by omega) (by omega)), g11.kept (hk _ (by omega) (by omega))⟩
/-- the object between its calls: net and state -/
def Cs (h : ax_H) (N : Nt) (σ : Sd) : Prop := (∃ dr, h.2.2 64 = some (eX dr)) ∧ Land h N ∧ StIs h 106 40 N σ ∧ anSt h 115 0 ∧ anTr h 124 ∧ Scr h
/-- what a reckoning may write -/
def trP : Nat → Prop := fun j => (115 ≤ j ∧ j ≤ 128) ∨ (132 ≤ j ∧ j ≤ 144)
theorem Cs.after {h' : ax_H} (a : Cs h N σ) (hb : But h h' trP) (a1 : anSt h' 115 0) (a2 : anTr h' 124) (a3 : Scr h') : Cs h' N σ := by
  obtain ⟨⟨dr, e⟩, hL, hS, -, -, -⟩ := a
  exact ⟨⟨dr, (hb.2.2 64 (by unfold trP; omega)).trans e⟩, hL.kept (fun j z1 z2 => hb.2.2 j (by unfold trP; omega)), hS.kept (fun j z1 z2 => hb.2.2 j (by unfold trP; omega)), a1, a2, a3⟩
theorem c_beginTrial (hN : nOK N) (hC : Cs h N σ) (hq : ∀ h', But h h' (fun j => 115 ≤ j ∧ j ≤ 128) → StIs h' 115 0 N σ → TrIs h' 124 (nT N) (trN N) → Cs h' N σ → Q (.inl none) h') : X G (d + 2) mX11_beginTrial 0 (ax_in 1 [.ref 64]) [] h Q := by
  obtain ⟨⟨dr, e64⟩, hL, hE, hA, hT, hS⟩ := id hC
  obtain ⟨y, e115⟩ := hA.1
  refine ax_aload_n dX11_beginTrial_0 rfl ?_
  refine ax_getf dX11_beginTrial_1 flX11_51 e64 rfl ?_
  refine ax_aload_n dX11_beginTrial_4 rfl ?_
  refine ax_getf dX11_beginTrial_5 flX11_47 e64 rfl ?_
  refine ax_cV dX11_beginTrial_8 mmX3_takeRoads lkX11_304 miX3_takeRoads msX3_takeRoads (ax_recv_of e115 rfl) rfl rfl (Nat.le_of_ble_eq_true rfl) (Nat.le_of_ble_eq_true rfl) rfl rfl (c_takeRoads (by omega) hN hA hE (fun h1 hb ht => ⟨_, rfl, ?_⟩))
  have e64 := (hb.2.2 64 (by omega)).trans e64
  have hL1 : Land h1 N := hL.kept (fun j z1 z2 => hb.2.2 j (by omega))
  have hT1 : anTr h1 124 := hT.kept (fun j z1 z2 => hb.2.2 j (by omega))
  obtain ⟨⟨co, hl, e89, -⟩, -⟩ := id hL1
  obtain ⟨tm, e124⟩ := hT1.1
  refine ax_aload_n dX11_beginTrial_11 rfl ?_
  refine ax_getf dX11_beginTrial_12 flX11_57 e64 rfl ?_
  refine ax_aload_n dX11_beginTrial_15 rfl ?_
  refine ax_getf dX11_beginTrial_16 flX11_39 e64 rfl ?_
  refine ax_getf dX11_beginTrial_19 flX11_164 e89 rfl ?_
  refine ax_cV dX11_beginTrial_22 mmX8_take lkX11_307 miX8_take msX8_take (ax_recv_of e124 rfl) rfl rfl (Nat.le_of_ble_eq_true rfl) (Nat.le_of_ble_eq_true rfl) rfl rfl (c_trTake (by omega) hN.2.2.2.1 hT1 hL1.tr (fun h2 hb2 ht2 => ⟨_, rfl, ?_⟩))
  have kp : ∀ j, (j < 124 ∨ 128 < j) → h2.2.2 j = h1.2.2 j := fun j z => hb2.2.2 j (by omega)
  obtain ⟨t0, t1, t2, t3, t4, ⟨f5, t5, q5⟩, t6⟩ := ht
  obtain ⟨-, -, -, -, -, -, -, ⟨g7, e7⟩, ⟨g8, e8⟩⟩ := id hA
  have hE2 : StIs h2 115 0 N σ := ⟨(kp _ (by omega)).trans t0, t1.kept (kp _ (by omega)), t2.kept (kp _ (by omega)), t3.kept (kp _ (by omega)), t4.kept (kp _ (by omega)), ⟨f5, (kp _ (by omega)).trans t5, q5⟩, t6.kept (kp _ (by omega)), ⟨g7, (kp _ (by omega)).trans ((hb.2.2 _ (by omega)).trans e7), fun j hj => by omega⟩, ⟨g8, (kp _ (by omega)).trans ((hb.2.2 _ (by omega)).trans e8), fun y r s _ hy => by omega⟩⟩
  have hb3 : But h h2 (fun j => 115 ≤ j ∧ j ≤ 128) := (hb.wide (fun j z => by omega)).tr (hb2.wide (fun j z => by omega))
  exact ax_return dX11_beginTrial_25 rfl (hq _ hb3 hE2 ht2 (hC.after (hb3.wide (fun j z => Or.inl z)) hE2.any ht2.any (hS.kept (fun j z1 z2 => hb3.2.2 j (by omega)))))
def yN (N : Nt) (kp : Nat) (tr : Nat → Nat → Nat) (T : Nat) (sw : Option Nat) (σ : Sd) : Nat → Sd
  | 0 => σ
  | n + 1 => yS N (yN N kp tr T sw σ n) kp tr T sw
theorem Bd.years {b y kp T : Nat} {tr : Nat → Nat → Nat} {sw : Option Nat} (hN : nOK N) (htr : trOK N T tr) (hb : 5300 ≤ b) (a : Bd N σ b y) : ∀ n, Bd N (yN N kp tr T sw σ n) b (y + n)
  | 0 => a
  | n + 1 => (Bd.years hN htr hb a n).year hN htr hb
/-- one year of the trial -/
theorem c_passT {T b y : Nat} {tr : Nat → Nat → Nat} {sw : Option Nat} {τ : Sd} (hsw : ∀ r, sw = some r → r < 100) (htr : trOK N T tr) (hN : nOK N) (hB : Bd N τ b y) (hb1 : b < 100000) (hy : y < 28000) (hC : Cs h N σ) (hT : TrIs h 124 T tr) (hE : StIs h 115 0 N τ)
    (hq : ∀ h', But h h' trP → Cs h' N σ → TrIs h' 124 T tr → StIs h' 115 0 N (yS N τ 0 tr T sw) → h'.2.2 142 = some (eYr (nI (tf N τ tr T).2.2.2.2.2)) → Q (.inl none) h') : X G (d + 4) mX10_pass 0 (ax_in 5 [.ref 142, .ref 115, .ref 124, .int (on sw)]) [] h Q := by
  have hO := hB.ok hb1 (by omega)
  have h5 := hB.2.2.2.2
  refine c_pass (Or.inr rfl) (by omega) (Or.inr rfl) hsw htr hN hO hB.2.2.2.1 (by omega) hC.2.1 hT hE hC.2.2.2.2.2 (fun h' hb hS hE' e142 => ?_)
  have hb' : But h h' trP := hb.wide (fun j z => by unfold paP at z; unfold trP; omega)
  have hT' : TrIs h' 124 T tr := hT.kept (fun j z1 z2 => hb.2.2 j (by unfold paP; omega))
  exact hq h' hb' (hC.after hb' hE'.any hT'.any hS) hT' hE' e142
theorem c_passTrial {T b y n : Nat} {tr : Nat → Nat → Nat} {sw : Option Nat} {τ : Sd} (hsw : ∀ r, sw = some r → r < 100) (htr : trOK N T tr) (hN : nOK N) (hB : Bd N τ b y) (hb0 : 5300 ≤ b) (hb1 : b < 100000) (hy : y + n ≤ 28000) (hC : Cs h N σ) (hT : TrIs h 124 T tr) (hE : StIs h 115 0 N τ)
    (hq : ∀ h', But h h' trP → Cs h' N σ → TrIs h' 124 T tr → StIs h' 115 0 N (yN N 0 tr T sw τ n) → Q (.inl none) h') : X G (d + 5) mX11_passTrial 0 (ax_in 4 [.ref 64, .int (nI n), .int (on sw)]) [] h Q := by
  have loop : ∀ (m i : Nat) (h1 : ax_H), i + m = n → But h h1 trP → Cs h1 N σ → TrIs h1 124 T tr → StIs h1 115 0 N (yN N 0 tr T sw τ i) → X G (d + 5) mX11_passTrial 2 [some (.ref 64), some (.int (nI n)), some (.int (on sw)), some (.int (nI i))] [] h1 Q := by
    intro m
    induction m with
    | zero =>
      intro i h1 hi hb hC1 hT1 hE1
      obtain rfl : i = n := by omega
      refine ax_iload_n dX11_passTrial_2 rfl ?_
      refine ax_iload_n dX11_passTrial_3 rfl ?_
      refine ax_icmp_geT 29 dX11_passTrial_4 (by decide) (Int32.le_refl _) ?_
      exact ax_return dX11_passTrial_29 rfl (hq _ hb hC1 hT1 hE1)
    | succ m ih =>
      intro i h1 hi hb hC1 hT1 hE1
      obtain ⟨⟨dr, e64⟩, -, -, -, -, hS⟩ := id hC1
      obtain ⟨cm, e142⟩ := hS.2.2.2.2.2.2.2.2.1
      refine ax_iload_n dX11_passTrial_2 rfl ?_
      refine ax_iload_n dX11_passTrial_3 rfl ?_
      refine ax_icmp_geF 29 dX11_passTrial_4 (by decide) (nI_ge (by omega) (by omega)) ?_
      refine ax_aload_n dX11_passTrial_7 rfl ?_
      refine ax_getf dX11_passTrial_8 flX11_92 e64 rfl ?_
      refine ax_aload_n dX11_passTrial_11 rfl ?_
      refine ax_getf dX11_passTrial_12 flX11_51 e64 rfl ?_
      refine ax_aload_n dX11_passTrial_15 rfl ?_
      refine ax_getf dX11_passTrial_16 flX11_57 e64 rfl ?_
      refine ax_iload_n dX11_passTrial_19 rfl ?_
      refine ax_cV dX11_passTrial_20 mmX10_pass lkX11_216 miX10_pass msX10_pass (ax_recv_of e142 rfl) rfl rfl (Nat.le_of_ble_eq_true rfl) (Nat.le_of_ble_eq_true rfl) rfl rfl (c_passT hsw htr hN (hB.years hN htr hb0 i) hb1 (by omega) hC1 hT1 hE1 (fun h2 hb2 hC2 hT2 hE2 _ => ⟨_, rfl, ?_⟩))
      refine ax_iinc dX11_passTrial_23 rfl (ax_inc 1) ?_
      refine ax_goto 2 dX11_passTrial_26 (by decide) ?_
      rw [nI_add]
      exact ih (i + 1) h2 (by omega) (hb.tr hb2) hC2 hT2 hE2
  refine ax_iconst dX11_passTrial_0 (v := nI 0) (by decide) ?_
  refine ax_istore_n dX11_passTrial_1 (Nat.le_of_ble_eq_true rfl) ?_
  exact loop n 0 h (by omega) But.rf hC hT hE
/-- the year after which a road is worn through -/
def wb (N : Nt) (tr : Nat → Nat → Nat) (T r : Nat) : Nat → Nat → Sd → Option Nat
  | 0, _, _ => none
  | m + 1, i, σ => if 1000 ≤ yS N σ 0 tr T none 1 r then some i else wb N tr T r m (i + 1) (yS N σ 0 tr T none)
theorem c_wornBehind {T b y n r : Nat} {tr : Nat → Nat → Nat} {τ : Sd} (hr : r < nR N) (htr : trOK N T tr) (hN : nOK N) (hB : Bd N τ b y) (hb0 : 5300 ≤ b) (hb1 : b < 100000) (hy : y + n ≤ 28000) (hC : Cs h N σ) (hT : TrIs h 124 T tr) (hE : StIs h 115 0 N τ)
    (hq : ∀ h', But h h' trP → Cs h' N σ → Q (.inl (some (.int (on (wb N tr T r n 1 τ))))) h') : X G (d + 5) mX11_wornBehind 0 (ax_in 4 [.ref 64, .int (nI r), .int (nI n)]) [] h Q := by
  have hR := hN.2.2.1
  have loop : ∀ (m i y : Nat) (τ1 : Sd) (h1 : ax_H), i + m = n + 1 → y + m ≤ 28000 → Bd N τ1 b y → wb N tr T r m i τ1 = wb N tr T r n 1 τ → But h h1 trP → Cs h1 N σ → TrIs h1 124 T tr → StIs h1 115 0 N τ1 → X G (d + 5) mX11_wornBehind 2 [some (.ref 64), some (.int (nI r)), some (.int (nI n)), some (.int (nI i))] [] h1 Q := by
    intro m
    induction m with
    | zero =>
      intro i y τ1 h1 hi hy hB1 hw hb hC1 hT1 hE1
      refine ax_iload_n dX11_wornBehind_2 rfl ?_
      refine ax_iload_n dX11_wornBehind_3 rfl ?_
      refine ax_icmp_gtT 42 dX11_wornBehind_4 (by decide) (nI_lt (by omega) (by omega)) ?_
      refine ax_iconst dX11_wornBehind_42 (v := -1) (by decide) ?_
      exact ax_ireturn dX11_wornBehind_43 rfl (by have := hq _ hb hC1; rw [← hw] at this; exact this)
    | succ m ih =>
      intro i y τ1 h1 hi hy hB1 hw hb hC1 hT1 hE1
      obtain ⟨⟨dr, e64⟩, -, -, -, -, hS⟩ := id hC1
      obtain ⟨cm, e142⟩ := hS.2.2.2.2.2.2.2.2.1
      refine ax_iload_n dX11_wornBehind_2 rfl ?_
      refine ax_iload_n dX11_wornBehind_3 rfl ?_
      refine ax_icmp_gtF 42 dX11_wornBehind_4 (by decide) (nI_nlt (by omega) (by omega)) ?_
      refine ax_aload_n dX11_wornBehind_7 rfl ?_
      refine ax_getf dX11_wornBehind_8 flX11_92 e64 rfl ?_
      refine ax_aload_n dX11_wornBehind_11 rfl ?_
      refine ax_getf dX11_wornBehind_12 flX11_51 e64 rfl ?_
      refine ax_aload_n dX11_wornBehind_15 rfl ?_
      refine ax_getf dX11_wornBehind_16 flX11_57 e64 rfl ?_
      refine ax_iconst dX11_wornBehind_19 (v := -1) (by decide) ?_
      refine ax_cV dX11_wornBehind_20 mmX10_pass lkX11_216 miX10_pass msX10_pass (ax_recv_of e142 rfl) rfl rfl (Nat.le_of_ble_eq_true rfl) (Nat.le_of_ble_eq_true rfl) rfl rfl (c_passT (sw := none) (fun r hr => by cases hr) htr hN hB1 hb1 (by omega) hC1 hT1 hE1 (fun h2 hb2 hC2 hT2 hE2 _ => ⟨_, rfl, ?_⟩))
      obtain ⟨⟨dr, e64⟩, -, -, -, -, -⟩ := id hC2
      obtain ⟨e115, ⟨Hf, e116, hH⟩, -⟩ := id hE2
      have hB2 := hB1.year (kp := 0) (sw := none) hN htr hb0
      have hh : yS N τ1 0 tr T none 1 r < 2 ^ 30 := by have := hB2.1 r (by omega); omega
      refine ax_aload_n dX11_wornBehind_23 rfl ?_
      refine ax_getf dX11_wornBehind_24 flX11_51 e64 rfl ?_
      refine ax_iload_n dX11_wornBehind_27 rfl ?_
      refine ax_cV dX11_wornBehind_28 mmX3_isWorn lkX11_151 miX3_isWorn msX3_isWorn (ax_recv_of e115 rfl) rfl rfl (Nat.le_of_ble_eq_true rfl) (Nat.le_of_ble_eq_true rfl) rfl rfl (c_stWorn e115 e116 (by omega) ⟨_, rfl, ?_⟩)
      rw [hH r hr]
      by_cases hc : 1000 ≤ yS N τ1 0 tr T none 1 r
      · rw [b1_t (nI_nlt hc (by omega))]
        refine ax_if_eqF 36 dX11_wornBehind_31 (by decide) (by decide) ?_
        refine ax_iload_n dX11_wornBehind_34 rfl ?_
        refine ax_ireturn dX11_wornBehind_35 rfl ?_
        have := hq _ (hb.tr hb2) hC2
        rw [← hw] at this
        unfold wb at this
        rw [if_pos hc] at this
        exact this
      · rw [b1_f (fun q => q (nI_lt (by omega) (by omega)))]
        refine ax_if_eqT 36 dX11_wornBehind_31 (by decide) rfl ?_
        refine ax_iinc dX11_wornBehind_36 rfl (ax_inc 1) ?_
        refine ax_goto 2 dX11_wornBehind_39 (by decide) ?_
        rw [nI_add]
        refine ih (i + 1) (y + 1) _ h2 (by omega) (by omega) hB2 ?_ (hb.tr hb2) hC2 hT2 hE2
        rw [← hw]
        conv => rhs; unfold wb
        rw [if_neg hc]
  refine ax_iconst dX11_wornBehind_0 (v := nI 1) (by decide) ?_
  refine ax_istore_n dX11_wornBehind_1 (Nat.le_of_ble_eq_true rfl) ?_
  exact loop n 1 y τ h (by omega) hy hB rfl But.rf hC hT hE
def hT (N : Nt) (σ : Sd) : Nat := sm (fun r => min (σ 1 r) 1000) (nR N)
def wR (N : Nt) (σ : Sd) : Nat := sm (fun r => if 1000 ≤ σ 1 r then 1 else 0) (nR N)
theorem mmin {a b : Nat} (ha : a < 2 ^ 31) (hb : b < 2 ^ 31) : (if nI b < nI a then nI b else nI a) = nI (min a b) := by
  by_cases hc : b < a
  · rw [if_pos (nI_lt hc ha), Nat.min_eq_right (by omega)]
  · rw [if_neg (nI_nlt (by omega) hb), Nat.min_eq_left (by omega)]
theorem c_holesTogether {k kp : Nat} {dr : Int64} {τ : Sd} (hN : nOK N) (hO : ∀ r, r < 10 → τ 1 r < 100000) (e64 : h.2.2 64 = some (eX dr)) (hL : Land h N) (hE : StIs h k kp N τ) (hq : Q (.inl (some (.int (nI (hT N τ))))) h) : X G (d + 1) mX11_holesTogether 0 (ax_in 4 [.ref 64, .ref k]) [] h Q := by
  obtain ⟨⟨co, hl, e89, -⟩, -⟩ := id hL
  obtain ⟨ek, ⟨Hf, ek_1, hH⟩, -⟩ := id hE
  have hR := hN.2.2.1
  have loop : ∀ (m i : Nat), i + m = nR N → X G (d + 1) mX11_holesTogether 4 [some (.ref 64), some (.ref k), some (.int (nI (sm (fun r => min (τ 1 r) 1000) i))), some (.int (nI i))] [] h Q := by
    intro m
    induction m with
    | zero =>
      intro i hi
      obtain rfl : i = nR N := by omega
      refine ax_iload_n dX11_holesTogether_4 rfl ?_
      refine ax_aload_n dX11_holesTogether_5 rfl ?_
      refine ax_getf dX11_holesTogether_6 flX11_39 e64 rfl ?_
      refine ax_getf dX11_holesTogether_9 flX11_279 e89 rfl ?_
      refine ax_icmp_geT 36 dX11_holesTogether_12 (by decide) (Int32.le_refl _) ?_
      refine ax_iload_n dX11_holesTogether_36 rfl ?_
      exact ax_ireturn dX11_holesTogether_37 rfl hq
    | succ m ih =>
      intro i hi
      refine ax_iload_n dX11_holesTogether_4 rfl ?_
      refine ax_aload_n dX11_holesTogether_5 rfl ?_
      refine ax_getf dX11_holesTogether_6 flX11_39 e64 rfl ?_
      refine ax_getf dX11_holesTogether_9 flX11_279 e89 rfl ?_
      refine ax_icmp_geF 36 dX11_holesTogether_12 (by decide) (nI_ge (by omega) (by omega)) ?_
      refine ax_iload_n dX11_holesTogether_15 rfl ?_
      refine ax_aload_n dX11_holesTogether_16 rfl ?_
      refine ax_getf dX11_holesTogether_17 flX11_144 ek rfl ?_
      refine ax_iload_n dX11_holesTogether_20 rfl ?_
      refine ax_iald dX11_holesTogether_21 ek_1 (ax_ix_nI (by omega) (by decide)) ?_
      rw [hH i (by omega)]
      refine ax_sipush dX11_holesTogether_22 (v := nI 1000) (by decide) ?_
      refine ax_mmin dX11_holesTogether_25 lkX11_313 min_w2 min_w3 min_w4 rfl (Nat.le_of_ble_eq_true rfl) (by omega) ?_
      rw [mmin (by have := hO i (by omega); omega) (by omega)]
      refine ax_iadd dX11_holesTogether_28 ?_
      refine ax_istore_n dX11_holesTogether_29 (Nat.le_of_ble_eq_true rfl) ?_
      refine ax_iinc dX11_holesTogether_30 rfl (ax_inc 1) ?_
      refine ax_goto 4 dX11_holesTogether_33 (by decide) ?_
      rw [nI_add, nI_add]
      exact ih (i + 1) (by omega)
  refine ax_iconst dX11_holesTogether_0 (v := nI 0) (by decide) ?_
  refine ax_istore_n dX11_holesTogether_1 (Nat.le_of_ble_eq_true rfl) ?_
  refine ax_iconst dX11_holesTogether_2 (v := nI 0) (by decide) ?_
  refine ax_istore_n dX11_holesTogether_3 (Nat.le_of_ble_eq_true rfl) ?_
  exact loop (nR N) 0 (by omega)
theorem c_wornRoads {k kp : Nat} {dr : Int64} {τ : Sd} (hN : nOK N) (hO : ∀ r, r < 10 → τ 1 r < 100000) (e64 : h.2.2 64 = some (eX dr)) (hL : Land h N) (hE : StIs h k kp N τ) (hq : Q (.inl (some (.int (nI (wR N τ))))) h) : X G (d + 1) mX11_wornRoads 0 (ax_in 4 [.ref 64, .ref k]) [] h Q := by
  obtain ⟨⟨co, hl, e89, -⟩, -⟩ := id hL
  obtain ⟨ek, ⟨Hf, ek_1, hH⟩, -⟩ := id hE
  have hR := hN.2.2.1
  have loop : ∀ (m i : Nat), i + m = nR N → X G (d + 1) mX11_wornRoads 4 [some (.ref 64), some (.ref k), some (.int (nI (sm (fun r => if 1000 ≤ τ 1 r then 1 else 0) i))), some (.int (nI i))] [] h Q := by
    intro m
    induction m with
    | zero =>
      intro i hi
      obtain rfl : i = nR N := by omega
      refine ax_iload_n dX11_wornRoads_4 rfl ?_
      refine ax_aload_n dX11_wornRoads_5 rfl ?_
      refine ax_getf dX11_wornRoads_6 flX11_39 e64 rfl ?_
      refine ax_getf dX11_wornRoads_9 flX11_279 e89 rfl ?_
      refine ax_icmp_geT 37 dX11_wornRoads_12 (by decide) (Int32.le_refl _) ?_
      refine ax_iload_n dX11_wornRoads_37 rfl ?_
      exact ax_ireturn dX11_wornRoads_38 rfl hq
    | succ m ih =>
      intro i hi
      have hOi := hO i (by omega)
      have e : sm (fun r => if 1000 ≤ τ 1 r then 1 else 0) (i + 1) = sm (fun r => if 1000 ≤ τ 1 r then 1 else 0) i + (if 1000 ≤ τ 1 i then 1 else 0) := rfl
      refine ax_iload_n dX11_wornRoads_4 rfl ?_
      refine ax_aload_n dX11_wornRoads_5 rfl ?_
      refine ax_getf dX11_wornRoads_6 flX11_39 e64 rfl ?_
      refine ax_getf dX11_wornRoads_9 flX11_279 e89 rfl ?_
      refine ax_icmp_geF 37 dX11_wornRoads_12 (by decide) (nI_ge (by omega) (by omega)) ?_
      refine ax_iload_n dX11_wornRoads_15 rfl ?_
      refine ax_aload_n dX11_wornRoads_16 rfl ?_
      refine ax_iload_n dX11_wornRoads_17 rfl ?_
      refine ax_cV dX11_wornRoads_18 mmX3_isWorn lkX11_151 miX3_isWorn msX3_isWorn (ax_recv_of ek rfl) rfl rfl (Nat.le_of_ble_eq_true rfl) (Nat.le_of_ble_eq_true rfl) rfl rfl (c_stWorn ek ek_1 (by omega) ⟨_, rfl, ?_⟩)
      rw [hH i (by omega)]
      by_cases hc : 1000 ≤ τ 1 i
      · rw [b1_t (nI_nlt hc (by omega))]
        rw [if_pos hc] at e
        refine ax_if_eqF 28 dX11_wornRoads_21 (by decide) (by decide) ?_
        refine ax_iconst dX11_wornRoads_24 (v := nI 1) (by decide) ?_
        refine ax_goto 29 dX11_wornRoads_25 (by decide) ?_
        refine ax_iadd dX11_wornRoads_29 ?_
        refine ax_istore_n dX11_wornRoads_30 (Nat.le_of_ble_eq_true rfl) ?_
        refine ax_iinc dX11_wornRoads_31 rfl (ax_inc 1) ?_
        refine ax_goto 4 dX11_wornRoads_34 (by decide) ?_
        rw [nI_add, nI_add, ← e]
        exact ih (i + 1) (by omega)
      · rw [b1_f (fun q => q (nI_lt (by omega) (by omega)))]
        rw [if_neg hc] at e
        refine ax_if_eqT 28 dX11_wornRoads_21 (by decide) rfl ?_
        refine ax_iconst dX11_wornRoads_28 (v := nI 0) (by decide) ?_
        refine ax_iadd dX11_wornRoads_29 ?_
        refine ax_istore_n dX11_wornRoads_30 (Nat.le_of_ble_eq_true rfl) ?_
        refine ax_iinc dX11_wornRoads_31 rfl (ax_inc 1) ?_
        refine ax_goto 4 dX11_wornRoads_34 (by decide) ?_
        rw [nI_add, nI_add, ← e]
        exact ih (i + 1) (by omega)
  refine ax_iconst dX11_wornRoads_0 (v := nI 0) (by decide) ?_
  refine ax_istore_n dX11_wornRoads_1 (Nat.le_of_ble_eq_true rfl) ?_
  refine ax_iconst dX11_wornRoads_2 (v := nI 0) (by decide) ?_
  refine ax_istore_n dX11_wornRoads_3 (Nat.le_of_ble_eq_true rfl) ?_
  exact loop (nR N) 0 (by omega)
end HP
