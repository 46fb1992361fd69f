section CA4
variable {G : ax_G} {d : Nat} {h : ax_H} {Q : ax_O → ax_H → Prop} {N : Nt} {σ : Sd}
/-- an int from a to b -/
def rng (a b : Nat) (x : Int32) : Option Nat := if ¬ x < nI a ∧ ¬ nI b < x then some x.toNatClampNeg else none
theorem rng_cases {a b : Nat} (hb : b < 2 ^ 30) (ha : a ≤ b) (x : Int32) : (rng a b x = none ∧ (x < nI a ∨ (¬ x < nI a ∧ nI b < x))) ∨ ∃ n, a ≤ n ∧ n ≤ b ∧ x = nI n ∧ rng a b x = some n := by
  unfold rng
  by_cases hc : ¬ x < nI a ∧ ¬ nI b < x
  · have h0 : ¬ x < 0 := fun q => hc.1 (Int32.lt_of_lt_of_le q (nI_pos' (by omega)))
    obtain ⟨j, hj, rfl⟩ := nI_of h0
    refine Or.inr ⟨j, ?_, ?_, rfl, by rw [if_pos hc, nI_clamp hj]⟩
    · rcases Nat.lt_or_ge j a with q | q
      · exact absurd (nI_lt q (by omega)) hc.1
      · exact q
    · rcases Nat.lt_or_ge b j with q | q
      · exact absurd (nI_lt q (by omega)) hc.2
      · exact q
  · rw [if_neg hc]
    refine Or.inl ⟨rfl, ?_⟩
    by_cases h1 : x < nI a
    · exact Or.inl h1
    · exact Or.inr ⟨h1, Decidable.byContradiction fun q => hc ⟨h1, q⟩⟩
def qLayer (N : Nt) (σ : Sd) (y x z : Int32) : Int32 := match ixN (nR N) x, ixN (nS N) z, ixN 40 y with
  | some r, some s, some k => if k < σ 0 0 then nI (σ 8 (50 * k + (5 * r + s))) else -1
  | _, _, _ => -1
theorem c_layer {y x z : Int32} (hN : nOK N) (hy : σ 0 0 < 2 ^ 30) (hC : Cs h N σ) (hq : Q (.inl (some (.int (qLayer N σ y x z)))) h) : X G (d + 2) mX11_layer 0 (ax_in 4 [.ref 64, .int y, .int x, .int z]) [] h Q := by
  obtain ⟨⟨dr, e64⟩, ⟨⟨co, hl, e89, -⟩, -⟩, ⟨e106, -, -, -, -, -, -, -, ⟨f8, e114, q8⟩⟩, -⟩ := id hC
  have hR := hN.2.2.1
  have hS5 := hN.1
  refine ax_aload_n dX11_layer_0 rfl ?_
  refine ax_iload_n dX11_layer_1 rfl ?_
  refine ax_cV dX11_layer_2 mmX11_isRoad lkX11_132 miX11_isRoad msX11_isRoad (ax_recv_of e64 rfl) rfl rfl (Nat.le_of_ble_eq_true rfl) (Nat.le_of_ble_eq_true rfl) rfl rfl (c_isRoad e64 e89 ⟨_, rfl, ?_⟩)
  unfold qLayer at hq
  rcases ix_cases (n := nR N) (by omega) x with ⟨hs, hb, -⟩ | ⟨r, hr, rfl, hs, hb⟩
  · rw [hs] at hq
    rw [hb]
    refine ax_if_eqT 38 dX11_layer_5 (by decide) rfl ?_
    refine ax_iconst dX11_layer_38 (v := -1) (by decide) ?_
    exact ax_ireturn dX11_layer_39 rfl hq
  · rw [hs] at hq
    rw [hb]
    refine ax_if_eqF 38 dX11_layer_5 (by decide) (by decide) ?_
    refine ax_aload_n dX11_layer_8 rfl ?_
    refine ax_iload_n dX11_layer_9 rfl ?_
    refine ax_cV dX11_layer_10 mmX11_isStuff lkX11_118 miX11_isStuff msX11_isStuff (ax_recv_of e64 rfl) rfl rfl (Nat.le_of_ble_eq_true rfl) (Nat.le_of_ble_eq_true rfl) rfl rfl (c_isStuff e64 e89 ⟨_, rfl, ?_⟩)
    rcases ix_cases (n := nS N) (by omega) z with ⟨hw, hb, -⟩ | ⟨s, hs', rfl, hw, hb⟩
    · rw [hw] at hq
      rw [hb]
      refine ax_if_eqT 38 dX11_layer_13 (by decide) rfl ?_
      refine ax_iconst dX11_layer_38 (v := -1) (by decide) ?_
      exact ax_ireturn dX11_layer_39 rfl hq
    · rw [hw] at hq
      rw [hb]
      refine ax_if_eqF 38 dX11_layer_13 (by decide) (by decide) ?_
      refine ax_aload_n dX11_layer_16 rfl ?_
      refine ax_getf dX11_layer_17 flX11_47 e64 rfl ?_
      refine ax_iload_n dX11_layer_20 rfl ?_
      refine ax_cV dX11_layer_21 mmX3_keeps lkX11_226 miX3_keeps msX3_keeps (ax_recv_of e106 rfl) rfl rfl (Nat.le_of_ble_eq_true rfl) (Nat.le_of_ble_eq_true rfl) rfl rfl (c_keeps e106 ⟨_, rfl, ?_⟩)
      rcases ix_cases (n := 40) (by omega) y with ⟨hz, hb, ho⟩ | ⟨k, hk, rfl, hz, hb⟩
      · rw [hz] at hq
        rw [hb]
        refine ax_if_eqT 38 dX11_layer_24 (by decide) rfl ?_
        refine ax_iconst dX11_layer_38 (v := -1) (by decide) ?_
        exact ax_ireturn dX11_layer_39 rfl hq
      · rw [hz] at hq
        rw [hb]
        dsimp only at hq
        refine ax_if_eqF 38 dX11_layer_24 (by decide) (by decide) ?_
        by_cases hc : k < σ 0 0
        · rw [if_pos hc] at hq
          refine ax_iload_n dX11_layer_27 rfl ?_
          refine ax_aload_n dX11_layer_28 rfl ?_
          refine ax_getf dX11_layer_29 flX11_47 e64 rfl ?_
          refine ax_getf dX11_layer_32 flX11_220 e106 rfl ?_
          refine ax_icmp_ltT 40 dX11_layer_35 (by decide) (nI_lt hc (by omega)) ?_
          refine ax_aload_n dX11_layer_40 rfl ?_
          refine ax_getf dX11_layer_41 flX11_47 e64 rfl ?_
          refine ax_getf dX11_layer_44 flX11_229 e106 rfl ?_
          refine ax_iload_n dX11_layer_47 rfl ?_
          refine ax_iload_n dX11_layer_48 rfl ?_
          refine ax_iload_n dX11_layer_49 rfl ?_
          refine ax_cS dX11_layer_50 mmX3_layerCell lkX11_232 mtX3_layerCell rfl rfl (Nat.le_of_ble_eq_true rfl) (Nat.le_of_ble_eq_true rfl) rfl rfl (c_layerCell ⟨_, rfl, ?_⟩)
          refine ax_iald dX11_layer_53 e114 (ax_ix_nI (by omega) (by decide)) ?_
          rw [q8 k r s hc hk hr hs']
          exact ax_ireturn dX11_layer_54 rfl hq
        · rw [if_neg hc] at hq
          refine ax_iload_n dX11_layer_27 rfl ?_
          refine ax_aload_n dX11_layer_28 rfl ?_
          refine ax_getf dX11_layer_29 flX11_47 e64 rfl ?_
          refine ax_getf dX11_layer_32 flX11_220 e106 rfl ?_
          refine ax_icmp_ltF 40 dX11_layer_35 (by decide) (nI_nlt (by omega) (by omega)) ?_
          refine ax_iconst dX11_layer_38 (v := -1) (by decide) ?_
          exact ax_ireturn dX11_layer_39 rfl hq
def qStarves (N : Nt) (σ : Sd) (x y : Int32) : Int32 := match ixN (nR N) x, yrs y with
  | some r, some n => if 1000 ≤ σ 1 r then nI 0 else on (wb N (trN N) (nT N) r n 1 σ)
  | _, _ => -1
theorem c_starves {x w : Int32} {b y : Nat} (hN : nOK N) (hB : Bd N σ b y) (hb0 : 5300 ≤ b) (hb1 : b < 100000) (hy : y + 50 ≤ 28000) (hC : Cs h N σ) (hq : ∀ h', But h h' trP → Cs h' N σ → Q (.inl (some (.int (qStarves N σ x w)))) h') : X G (d + 6) mX11_starves 0 (ax_in 3 [.ref 64, .int x, .int w]) [] h Q := by
  obtain ⟨⟨dr, e64⟩, ⟨⟨co, hl, e89, -⟩, -⟩, ⟨e106, ⟨f1, e107, q1⟩, -⟩, -⟩ := id hC
  have hR := hN.2.2.1
  refine ax_aload_n dX11_starves_0 rfl ?_
  refine ax_iload_n dX11_starves_1 rfl ?_
  refine ax_cV dX11_starves_2 mmX11_isRoad lkX11_132 miX11_isRoad msX11_isRoad (ax_recv_of e64 rfl) rfl rfl (Nat.le_of_ble_eq_true rfl) (Nat.le_of_ble_eq_true rfl) rfl rfl (c_isRoad e64 e89 ⟨_, rfl, ?_⟩)
  unfold qStarves at hq
  rcases ix_cases (n := nR N) (by omega) x with ⟨hs, hb, -⟩ | ⟨r, hr, rfl, hs, hb⟩
  · rw [hs] at hq
    rw [hb]
    refine ax_if_eqT 15 dX11_starves_5 (by decide) rfl ?_
    refine ax_iconst dX11_starves_15 (v := -1) (by decide) ?_
    exact ax_ireturn dX11_starves_16 rfl (hq _ But.rf hC)
  · rw [hs] at hq
    rw [hb]
    refine ax_if_eqF 15 dX11_starves_5 (by decide) (by decide) ?_
    refine ax_iload_n dX11_starves_8 rfl ?_
    refine ax_cS dX11_starves_9 mmX11_isYears lkX11_213 mtX11_isYears rfl rfl (Nat.le_of_ble_eq_true rfl) (Nat.le_of_ble_eq_true rfl) rfl rfl (c_isYears ⟨_, rfl, ?_⟩)
    rcases yrs_cases w with ⟨hw, hb⟩ | ⟨n, hn1, hn50, rfl, hw, hb⟩
    · rw [hw] at hq
      rw [hb]
      refine ax_if_neF 17 dX11_starves_12 (by decide) rfl ?_
      refine ax_iconst dX11_starves_15 (v := -1) (by decide) ?_
      exact ax_ireturn dX11_starves_16 rfl (hq _ But.rf hC)
    · rw [hw] at hq
      rw [hb]
      dsimp only at hq
      have hh := hB.1 r (by omega)
      refine ax_if_neT 17 dX11_starves_12 (by decide) (by decide) ?_
      refine ax_aload_n dX11_starves_17 rfl ?_
      refine ax_getf dX11_starves_18 flX11_47 e64 rfl ?_
      refine ax_iload_n dX11_starves_21 rfl ?_
      refine ax_cV dX11_starves_22 mmX3_isWorn lkX11_151 miX3_isWorn msX3_isWorn (ax_recv_of e106 rfl) rfl rfl (Nat.le_of_ble_eq_true rfl) (Nat.le_of_ble_eq_true rfl) rfl rfl (c_stWorn e106 e107 (by omega) ⟨_, rfl, ?_⟩)
      rw [q1 r hr]
      by_cases hc : 1000 ≤ σ 1 r
      · rw [if_pos hc] at hq
        rw [b1_t (nI_nlt hc (by omega))]
        refine ax_if_eqF 30 dX11_starves_25 (by decide) (by decide) ?_
        refine ax_iconst dX11_starves_28 (v := nI 0) (by decide) ?_
        exact ax_ireturn dX11_starves_29 rfl (hq _ But.rf hC)
      · rw [if_neg hc] at hq
        rw [b1_f (fun q => q (nI_lt (by omega) (by omega)))]
        refine ax_if_eqT 30 dX11_starves_25 (by decide) rfl ?_
        refine ax_aload_n dX11_starves_30 rfl ?_
        refine ax_cV dX11_starves_31 mmX11_beginTrial lkX11_236 miX11_beginTrial msX11_beginTrial (ax_recv_of e64 rfl) rfl rfl (Nat.le_of_ble_eq_true rfl) (Nat.le_of_ble_eq_true rfl) rfl rfl (c_beginTrial (d := d + 3) hN hC (fun h1 hb1' hE1 hT1 hC1 => ⟨_, rfl, ?_⟩))
        obtain ⟨⟨dr, e64⟩, -⟩ := id hC1
        refine ax_aload_n dX11_starves_34 rfl ?_
        refine ax_iload_n dX11_starves_35 rfl ?_
        refine ax_iload_n dX11_starves_36 rfl ?_
        refine ax_cV dX11_starves_37 mmX11_wornBehind lkX11_239 miX11_wornBehind msX11_wornBehind (ax_recv_of e64 rfl) rfl rfl (Nat.le_of_ble_eq_true rfl) (Nat.le_of_ble_eq_true rfl) rfl rfl (c_wornBehind (d := d) hr hN.tr hN hB hb0 hb1 (by omega) hC1 hT1 hE1 (fun h2 hb2 hC2 => ⟨_, rfl, ?_⟩))
        exact ax_ireturn dX11_starves_40 rfl (hq _ ((hb1'.wide (fun j z => Or.inl z)).tr hb2) hC2)
theorem wb_le {T r : Nat} {tr : Nat → Nat → Nat} {j : Nat} : ∀ (m i : Nat) (τ : Sd), wb N tr T r m i τ = some j → j < i + m
  | 0, i, τ, hj => by cases hj
  | m + 1, i, τ, hj => by
    unfold wb at hj
    split at hj
    · cases hj; omega
    · have := wb_le m (i + 1) _ hj
      omega
theorem on_none {o : Option Nat} (ho : ∀ j, o = some j → j < 2 ^ 31) : on o = -1 ↔ o = none := by
  cases o with
  | none => exact ⟨fun _ => rfl, fun _ => rfl⟩
  | some j => exact ⟨fun q => absurd (show nI j < 0 by rw [show nI j = -1 from q]; decide) (nI_pos (ho j rfl)), fun q => by cases q⟩
/-- so many parts hold the road -/
def puB (N : Nt) (σ : Sd) (r s n p : Nat) : Bool := (wb N (trN N) (nT N) r n 1 (sUp σ 3 (5 * r + s) (σ 3 (5 * r + s) + p))).isNone
def qPurpose (N : Nt) (σ : Sd) (x y z : Int32) : Int32 := match ixN (nR N) x, ixN (nS N) y, yrs z with
  | some r, some s, some n => on (fst (puB N σ r s n) 0 100)
  | _, _, _ => -1
theorem Bd.up3 {b y c v : Nat} (hv : v ≤ 198) (a : Bd N σ b y) : Bd N (sUp σ 3 c v) b y := by
  obtain ⟨a1, a2, a3, a4, a5⟩ := a
  refine ⟨a1, a2, a3, fun j => ?_, a5⟩
  show upN (σ 3) c v j ≤ 198
  unfold upN
  split
  · exact hv
  · exact a4 j
theorem c_purpose {x w z : Int32} {b y : Nat} (hN : nOK N) (hB : Bd N σ b y) (hp : ∀ c, σ 3 c ≤ 99) (hb0 : 5300 ≤ b) (hb1 : b < 100000) (hy : y + 50 ≤ 28000) (hC : Cs h N σ) (hq : ∀ h', But h h' trP → Cs h' N σ → Q (.inl (some (.int (qPurpose N σ x w z)))) h') : X G (d + 6) mX11_purpose 0 (ax_in 5 [.ref 64, .int x, .int w, .int z]) [] h Q := by
  obtain ⟨⟨dr, e64⟩, ⟨⟨co, hl, e89, -⟩, -⟩, -⟩ := id hC
  have hR := hN.2.2.1
  have hS5 := hN.1
  refine ax_aload_n dX11_purpose_0 rfl ?_
  refine ax_iload_n dX11_purpose_1 rfl ?_
  refine ax_cV dX11_purpose_2 mmX11_isRoad lkX11_132 miX11_isRoad msX11_isRoad (ax_recv_of e64 rfl) rfl rfl (Nat.le_of_ble_eq_true rfl) (Nat.le_of_ble_eq_true rfl) rfl rfl (c_isRoad e64 e89 ⟨_, rfl, ?_⟩)
  unfold qPurpose at hq
  rcases ix_cases (n := nR N) (by omega) x with ⟨hs, hb, -⟩ | ⟨r, hr, rfl, hs, hb⟩
  · rw [hs] at hq
    rw [hb]
    refine ax_if_eqT 23 dX11_purpose_5 (by decide) rfl ?_
    refine ax_iconst dX11_purpose_23 (v := -1) (by decide) ?_
    exact ax_ireturn dX11_purpose_24 rfl (hq _ But.rf hC)
  · rw [hs] at hq
    rw [hb]
    refine ax_if_eqF 23 dX11_purpose_5 (by decide) (by decide) ?_
    refine ax_aload_n dX11_purpose_8 rfl ?_
    refine ax_iload_n dX11_purpose_9 rfl ?_
    refine ax_cV dX11_purpose_10 mmX11_isStuff lkX11_118 miX11_isStuff msX11_isStuff (ax_recv_of e64 rfl) rfl rfl (Nat.le_of_ble_eq_true rfl) (Nat.le_of_ble_eq_true rfl) rfl rfl (c_isStuff e64 e89 ⟨_, rfl, ?_⟩)
    rcases ix_cases (n := nS N) (by omega) w with ⟨hw, hb, -⟩ | ⟨s, hs', rfl, hw, hb⟩
    · rw [hw] at hq
      rw [hb]
      refine ax_if_eqT 23 dX11_purpose_13 (by decide) rfl ?_
      refine ax_iconst dX11_purpose_23 (v := -1) (by decide) ?_
      exact ax_ireturn dX11_purpose_24 rfl (hq _ But.rf hC)
    · rw [hw] at hq
      rw [hb]
      refine ax_if_eqF 23 dX11_purpose_13 (by decide) (by decide) ?_
      refine ax_iload_n dX11_purpose_16 rfl ?_
      refine ax_cS dX11_purpose_17 mmX11_isYears lkX11_213 mtX11_isYears rfl rfl (Nat.le_of_ble_eq_true rfl) (Nat.le_of_ble_eq_true rfl) rfl rfl (c_isYears ⟨_, rfl, ?_⟩)
      rcases yrs_cases z with ⟨hz, hb⟩ | ⟨n, hn1, hn50, rfl, hz, hb⟩
      · rw [hz] at hq
        rw [hb]
        refine ax_if_neF 25 dX11_purpose_20 (by decide) rfl ?_
        refine ax_iconst dX11_purpose_23 (v := -1) (by decide) ?_
        exact ax_ireturn dX11_purpose_24 rfl (hq _ But.rf hC)
      · rw [hz] at hq
        rw [hb]
        dsimp only at hq
        have loop : ∀ (m i : Nat) (h1 : ax_H), i + m = 100 → fst (puB N σ r s n) i m = fst (puB N σ r s n) 0 100 → But h h1 trP → Cs h1 N σ → X G (d + 6) mX11_purpose 28 [some (.ref 64), some (.int (nI r)), some (.int (nI s)), some (.int (nI n)), some (.int (nI i))] [] h1 Q := by
          intro m
          induction m with
          | zero =>
            intro i h1 hi hf hbb hC1
            obtain rfl : i = 100 := by omega
            refine ax_iload dX11_purpose_28 rfl ?_
            refine ax_bipush dX11_purpose_30 (v := nI 99) (by decide) ?_
            refine ax_icmp_gtT 76 dX11_purpose_32 (by decide) (by decide) ?_
            refine ax_iconst dX11_purpose_76 (v := -1) (by decide) ?_
            exact ax_ireturn dX11_purpose_77 rfl (by have := hq _ hbb hC1; rw [← hf] at this; exact this)
          | succ m ih =>
            intro i h1 hi hf hbb hC1
            obtain ⟨⟨dr, e64⟩, -⟩ := id hC1
            refine ax_iload dX11_purpose_28 rfl ?_
            refine ax_bipush dX11_purpose_30 (v := nI 99) (by decide) ?_
            refine ax_icmp_gtF 76 dX11_purpose_32 (by decide) (nI_nlt (by omega) (by omega)) ?_
            refine ax_aload_n dX11_purpose_35 rfl ?_
            refine ax_cV dX11_purpose_36 mmX11_beginTrial lkX11_236 miX11_beginTrial msX11_beginTrial (ax_recv_of e64 rfl) rfl rfl (Nat.le_of_ble_eq_true rfl) (Nat.le_of_ble_eq_true rfl) rfl rfl (c_beginTrial (d := d + 3) hN hC1 (fun h2 hb2 hE2 hT2 hC2 => ⟨_, rfl, ?_⟩))
            obtain ⟨⟨dr, e64⟩, -⟩ := id hC2
            obtain ⟨e115, a1, a2, ⟨f3, e118, q3⟩, a4, ⟨f5, e5, q5⟩, a6, a7, ⟨f8, e8, q8⟩⟩ := id hE2
            refine ax_aload_n dX11_purpose_39 rfl ?_
            refine ax_getf dX11_purpose_40 flX11_51 e64 rfl ?_
            refine ax_getf dX11_purpose_43 flX11_223 e115 rfl ?_
            refine ax_iload_n dX11_purpose_46 rfl ?_
            refine ax_iload_n dX11_purpose_47 rfl ?_
            refine ax_cS dX11_purpose_48 mmX11_cell lkX11_157 mtX11_cell rfl rfl (Nat.le_of_ble_eq_true rfl) (Nat.le_of_ble_eq_true rfl) rfl rfl (c_cellN ⟨_, rfl, ?_⟩)
            refine ax_dup2 dX11_purpose_51 rfl rfl ?_
            refine ax_iald dX11_purpose_52 e118 (ax_ix_nI (by omega) (by decide)) ?_
            rw [q3 _ (by omega)]
            refine ax_iload dX11_purpose_53 rfl ?_
            refine ax_iadd dX11_purpose_55 ?_
            rw [nI_add]
            refine ax_iast dX11_purpose_56 e118 (ax_ix_nI (by omega) (by decide)) ?_
            have kp : ∀ j, j ≠ 118 → (ax_wr h2 118 (eI 50 (upd f3 (5 * r + s) (nI (σ 3 (5 * r + s) + i))))).2.2 j = h2.2.2 j := fun j z => ax_wr_ne z
            have hE3 : StIs (ax_wr h2 118 (eI 50 (upd f3 (5 * r + s) (nI (σ 3 (5 * r + s) + i))))) 115 0 N (sUp σ 3 (5 * r + s) (σ 3 (5 * r + s) + i)) := ⟨(kp _ (by decide)).trans e115, a1.kept (kp _ (by decide)), a2.kept (kp _ (by decide)), ⟨_, ax_wr_eq, isA_up q3⟩, a4.kept (kp _ (by decide)), ⟨f5, (kp _ (by decide)).trans e5, q5⟩, a6.kept (kp _ (by decide)), a7.kept (kp _ (by decide)), ⟨f8, (kp _ (by decide)).trans e8, q8⟩⟩
            have hb3 : But h2 (ax_wr h2 118 (eI 50 (upd f3 (5 * r + s) (nI (σ 3 (5 * r + s) + i))))) trP := But.rf.wr (by unfold trP; omega)
            have hT3 : TrIs (ax_wr h2 118 (eI 50 (upd f3 (5 * r + s) (nI (σ 3 (5 * r + s) + i))))) 124 (nT N) (trN N) := hT2.kept (fun j z1 z2 => kp j (by omega))
            have hC3 : Cs (ax_wr h2 118 (eI 50 (upd f3 (5 * r + s) (nI (σ 3 (5 * r + s) + i))))) N σ := hC2.after hb3 hE3.any hT3.any (hC2.2.2.2.2.2.kept (fun j z1 z2 => kp j (by omega)))
            generalize ax_wr h2 118 (eI 50 (upd f3 (5 * r + s) (nI (σ 3 (5 * r + s) + i)))) = h3 at hE3 hb3 hT3 hC3 ⊢
            obtain ⟨⟨dr, e64⟩, -⟩ := id hC3
            have hpc := hp (5 * r + s)
            refine ax_aload_n dX11_purpose_57 rfl ?_
            refine ax_iload_n dX11_purpose_58 rfl ?_
            refine ax_iload_n dX11_purpose_59 rfl ?_
            refine ax_cV dX11_purpose_60 mmX11_wornBehind lkX11_239 miX11_wornBehind msX11_wornBehind (ax_recv_of e64 rfl) rfl rfl (Nat.le_of_ble_eq_true rfl) (Nat.le_of_ble_eq_true rfl) rfl rfl (c_wornBehind (d := d) hr hN.tr hN (hB.up3 (by omega)) hb0 hb1 (by omega) hC3 hT3 hE3 (fun h4 hb4 hC4 => ⟨_, rfl, ?_⟩))
            have hbe : But h h4 trP := ((hbb.tr (hb2.wide (fun j z => Or.inl z))).tr hb3).tr hb4
            have hon := on_none (o := wb N (trN N) (nT N) r n 1 (sUp σ 3 (5 * r + s) (σ 3 (5 * r + s) + i))) (fun j hj => by have := wb_le _ _ _ hj; omega)
            by_cases hc : wb N (trN N) (nT N) r n 1 (sUp σ 3 (5 * r + s) (σ 3 (5 * r + s) + i)) = none
            · refine ax_iconst dX11_purpose_63 (v := -1) (by decide) ?_
              refine ax_icmp_neF 70 dX11_purpose_64 (by decide) (hon.mpr hc) ?_
              refine ax_iload dX11_purpose_67 rfl ?_
              refine ax_ireturn dX11_purpose_69 rfl ?_
              have := hq _ hbe hC4
              rw [← hf] at this
              unfold fst at this
              rw [if_pos (show puB N σ r s n i = true by unfold puB; rw [hc]; rfl)] at this
              exact this
            · refine ax_iconst dX11_purpose_63 (v := -1) (by decide) ?_
              refine ax_icmp_neT 70 dX11_purpose_64 (by decide) (fun q => hc (hon.mp q)) ?_
              refine ax_iinc dX11_purpose_70 rfl (ax_inc 1) ?_
              refine ax_goto 28 dX11_purpose_73 (by decide) ?_
              rw [nI_add]
              refine ih (i + 1) h4 (by omega) ?_ hbe hC4
              rw [← hf]
              conv => rhs; unfold fst
              rw [if_neg (by unfold puB; rw [Option.isNone_iff_eq_none]; exact hc)]
        refine ax_if_neT 25 dX11_purpose_20 (by decide) (by decide) ?_
        refine ax_iconst dX11_purpose_25 (v := nI 0) (by decide) ?_
        refine ax_istore dX11_purpose_26 (Nat.le_of_ble_eq_true rfl) ?_
        exact loop 100 0 h rfl rfl But.rf hC
end CA4
