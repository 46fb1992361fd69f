section CA6
variable {G : ax_G} {d : Nat} {h : ax_H} {Q : ax_O → ax_H → Prop} {N : Nt} {σ : Sd}
/-- went: the least set, how many sets, what is in all -/
def wnt (N : Nt) (σ : Sd) (r : Nat) : Nat → Option Nat × Nat × Int32
  | 0 => (none, 0, (nI 1 <<< (nI (nT N) &&& 31)) - nI 1)
  | m + 1 => if lvP N σ r m then ((if (wnt N σ r m).2.1 = 0 then some m else (wnt N σ r m).1), (wnt N σ r m).2.1 + 1, (wnt N σ r m).2.2 &&& nI m) else wnt N σ r m
def qWent (N : Nt) (σ : Sd) (x w : Int32) : Int32 := match ixN (nR N) x, ixN 3 w with
  | some r, some j => if (wnt N σ r (2 ^ nT N)).2.1 = 0 then -1 else if j = 0 then on (wnt N σ r (2 ^ nT N)).1 else if j = 1 then nI (wnt N σ r (2 ^ nT N)).2.1 else (wnt N σ r (2 ^ nT N)).2.2
  | _, _ => -1
theorem shl1 {T : Nat} (hT : T ≤ 6) : nI 1 <<< (nI T &&& 31) = nI (2 ^ T) := by
  have : T = 0 ∨ T = 1 ∨ T = 2 ∨ T = 3 ∨ T = 4 ∨ T = 5 ∨ T = 6 := by omega
  rcases this with rfl | rfl | rfl | rfl | rfl | rfl | rfl <;> decide
theorem p64 {T : Nat} (hT : T ≤ 6) : 2 ^ T ≤ 64 := Nat.pow_le_pow_right (by decide) hT
theorem wnt_le {r : Nat} : ∀ m, (wnt N σ r m).2.1 ≤ m
  | 0 => Nat.le_refl _
  | m + 1 => by
    have := wnt_le (r := r) m
    unfold wnt
    split
    · exact Nat.succ_le_succ this
    · omega
theorem c_went {x w : Int32} (hN : nOK N) (hO : sOK N σ) (hto : ∀ s, s < 5 → σ 7 s ≤ 9999) (hC : Cs h N σ) (hq : ∀ h', But h h' trP → Cs h' N σ → Q (.inl (some (.int (qWent N σ x w)))) h') : X G (d + 4) mX11_went 0 (ax_in 7 [.ref 64, .int x, .int w]) [] h Q := by
  obtain ⟨⟨dr, e64⟩, hL, hE, hA, hTr, hS⟩ := id hC
  obtain ⟨⟨co, hl, e89, -⟩, -⟩ := id hL
  obtain ⟨g1, g2, g3, g4, g5, g6, g7, hW, ⟨cm, g9⟩, g10, g11⟩ := id hS
  have hR := hN.2.2.1
  have hT6 := hN.2.2.2.1
  have e131 := g1
  have h64 := p64 hT6
  refine ax_aload_n dX11_went_0 rfl ?_
  refine ax_iload_n dX11_went_1 rfl ?_
  refine ax_cV dX11_went_2 mmX11_isRoad lkX11_132 miX11_isRoad msX11_isRoad (ax_recv_of e64 rfl) rfl rfl (Nat.le_of_ble_eq_true rfl) (Nat.le_of_ble_eq_true rfl) rfl rfl (c_isRoad e64 e89 ⟨_, rfl, ?_⟩)
  unfold qWent at hq
  rcases ix_cases (n := nR N) (by omega) x with ⟨hs, hb, -⟩ | ⟨r, hr, rfl, hs, hb⟩
  · rw [hs] at hq
    rw [hb]
    refine ax_if_eqT 17 dX11_went_5 (by decide) rfl ?_
    refine ax_iconst dX11_went_17 (v := -1) (by decide) ?_
    exact ax_ireturn dX11_went_18 rfl (hq _ But.rf hC)
  · rw [hs] at hq
    rw [hb]
    refine ax_if_eqF 17 dX11_went_5 (by decide) (by decide) ?_
    rcases ix_cases (n := 3) (by omega) w with ⟨hz, hb, ho⟩ | ⟨j, hj, rfl, hz, hb⟩
    · rw [hz] at hq
      by_cases h0 : w < 0
      · refine ax_iload_n dX11_went_8 rfl ?_
        refine ax_if_ltT 17 dX11_went_9 (by decide) h0 ?_
        refine ax_iconst dX11_went_17 (v := -1) (by decide) ?_
        exact ax_ireturn dX11_went_18 rfl (hq _ But.rf hC)
      · have h1 : nI 3 ≤ w := ho.resolve_left h0
        refine ax_iload_n dX11_went_8 rfl ?_
        refine ax_if_ltF 17 dX11_went_9 (by decide) h0 ?_
        refine ax_iload_n dX11_went_12 rfl ?_
        refine ax_iconst dX11_went_13 (v := nI 2) (by decide) ?_
        refine ax_icmp_leF 19 dX11_went_14 (by decide) (Int32.not_le.mpr (Int32.lt_of_lt_of_le (by decide) h1)) ?_
        refine ax_iconst dX11_went_17 (v := -1) (by decide) ?_
        exact ax_ireturn dX11_went_18 rfl (hq _ But.rf hC)
    · rw [hz] at hq
      dsimp only at hq
      refine ax_iload_n dX11_went_8 rfl ?_
      refine ax_if_ltF 17 dX11_went_9 (by decide) (nI_pos (by omega)) ?_
      refine ax_iload_n dX11_went_12 rfl ?_
      refine ax_iconst dX11_went_13 (v := nI 2) (by decide) ?_
      refine ax_icmp_leT 19 dX11_went_14 (by decide) (nI_le (by omega) (by omega)) ?_
      refine ax_aload_n dX11_went_19 rfl ?_
      refine ax_getf dX11_went_20 flX11_74 e64 rfl ?_
      refine ax_aload_n dX11_went_23 rfl ?_
      refine ax_getf dX11_went_24 flX11_47 e64 rfl ?_
      refine ax_cV dX11_went_27 mmX4_look lkX11_206 miX4_look msX4_look (ax_recv_of e131 rfl) rfl rfl (Nat.le_of_ble_eq_true rfl) (Nat.le_of_ble_eq_true rfl) rfl rfl (c_look (d := d + 1) (by omega) (by omega) hN hL hE hO g1 g2 g3 g4 g5 g6 g7 (fun h1 hs1 hS1 => ⟨_, rfl, ?_⟩))
      have fin : ∀ h2, Same h h2 132 137 → Seen h2 N σ → But h h2 trP ∧ Cs h2 N σ := fun h2 hs2 hS2 => by
        have kp2 : ∀ j, (j < 132 ∨ 137 < j) → h2.2.2 j = h.2.2 j := fun j z => hs2.2.2 j z
        have hb : But h h2 trP := hs2.but (fun j z1 z2 => by unfold trP; omega)
        obtain ⟨y1, y2, y3, y4, y5, y6, y7⟩ := hS2.any
        have hScr : Scr h2 := ⟨y1, y2, y3, y4, y5, y6, y7, hW.kept (fun j z1 z2 => kp2 j (by omega)), ⟨cm, (kp2 142 (by omega)).trans g9⟩, g10.kept (kp2 143 (by omega)), g11.kept (kp2 144 (by omega))⟩
        exact ⟨hb, hC.after hb (hA.kept (fun j z1 z2 => kp2 j (by omega))) (hTr.kept (fun j z1 z2 => kp2 j (by omega))) hScr⟩
      have loop : ∀ (k m : Nat) (h2 : ax_H), m + k = 2 ^ nT N → Same h h2 132 137 → Seen h2 N σ → X G (d + 4) mX11_went 54 [some (.ref 64), some (.int (nI r)), some (.int (nI j)), some (.int (on (wnt N σ r m).1)), some (.int (nI (wnt N σ r m).2.1)), some (.int (wnt N σ r m).2.2), some (.int (nI m))] [] h2 Q := by
        intro k
        induction k with
        | zero =>
          intro m h2 hm hs2 hS2
          obtain rfl : m = 2 ^ nT N := by omega
          obtain ⟨hbb, hC2⟩ := fin h2 hs2 hS2
          obtain ⟨⟨dr, e64⟩, ⟨⟨co, hl, e89, -⟩, -, -, -, -, -, e98, -⟩, -⟩ := id hC2
          have hq1 := hq _ hbb hC2
          have hwl := wnt_le (N := N) (σ := σ) (r := r) (2 ^ nT N)
          refine ax_iload dX11_went_54 rfl ?_
          refine ax_iconst dX11_went_56 (v := nI 1) (by decide) ?_
          refine ax_aload_n dX11_went_57 rfl ?_
          refine ax_getf dX11_went_58 flX11_39 e64 rfl ?_
          refine ax_getf dX11_went_61 flX11_164 e89 rfl ?_
          refine ax_getf dX11_went_64 flX11_251 e98 rfl ?_
          refine ax_ishl dX11_went_67 ?_
          rw [shl1 hT6]
          refine ax_icmp_geT 109 dX11_went_68 (by decide) (Int32.le_refl _) ?_
          by_cases hc : (wnt N σ r (2 ^ nT N)).2.1 = 0
          · rw [if_pos hc] at hq1
            rw [hc]
            refine ax_iload dX11_went_109 rfl ?_
            refine ax_if_neF 116 dX11_went_111 (by decide) rfl ?_
            refine ax_iconst dX11_went_114 (v := -1) (by decide) ?_
            exact ax_ireturn dX11_went_115 rfl hq1
          · rw [if_neg hc] at hq1
            refine ax_iload dX11_went_109 rfl ?_
            refine ax_if_neT 116 dX11_went_111 (by decide) (fun q => hc ((nI_eq (by omega) (by omega)).mp q)) ?_
            rcases lt3 hj with rfl | rfl | rfl
            · refine ax_iload_n dX11_went_116 rfl ?_
              refine ax_if_neF 124 dX11_went_117 (by decide) rfl ?_
              refine ax_iload_n dX11_went_120 rfl ?_
              refine ax_goto 136 dX11_went_121 (by decide) ?_
              exact ax_ireturn dX11_went_136 rfl hq1
            · refine ax_iload_n dX11_went_116 rfl ?_
              refine ax_if_neT 124 dX11_went_117 (by decide) (by decide) ?_
              refine ax_iload_n dX11_went_124 rfl ?_
              refine ax_iconst dX11_went_125 (v := nI 1) (by decide) ?_
              refine ax_icmp_neF 134 dX11_went_126 (by decide) rfl ?_
              refine ax_iload dX11_went_129 rfl ?_
              refine ax_goto 136 dX11_went_131 (by decide) ?_
              exact ax_ireturn dX11_went_136 rfl hq1
            · refine ax_iload_n dX11_went_116 rfl ?_
              refine ax_if_neT 124 dX11_went_117 (by decide) (by decide) ?_
              refine ax_iload_n dX11_went_124 rfl ?_
              refine ax_iconst dX11_went_125 (v := nI 1) (by decide) ?_
              refine ax_icmp_neT 134 dX11_went_126 (by decide) (by decide) ?_
              refine ax_iload dX11_went_134 rfl ?_
              exact ax_ireturn dX11_went_136 rfl hq1
        | succ k ih =>
          intro m h2 hm hs2 hS2
          obtain ⟨hbb, hC2⟩ := fin h2 hs2 hS2
          obtain ⟨⟨dr, e64⟩, hL2, hE2, -⟩ := id hC2
          obtain ⟨⟨co, hl, e89, -⟩, -, -, -, -, -, e98, -⟩ := id hL2
          have hwl := wnt_le (N := N) (σ := σ) (r := r) m
          refine ax_iload dX11_went_54 rfl ?_
          refine ax_iconst dX11_went_56 (v := nI 1) (by decide) ?_
          refine ax_aload_n dX11_went_57 rfl ?_
          refine ax_getf dX11_went_58 flX11_39 e64 rfl ?_
          refine ax_getf dX11_went_61 flX11_164 e89 rfl ?_
          refine ax_getf dX11_went_64 flX11_251 e98 rfl ?_
          refine ax_ishl dX11_went_67 ?_
          rw [shl1 hT6]
          refine ax_icmp_geF 109 dX11_went_68 (by decide) (nI_ge (by omega) (by omega)) ?_
          refine ax_aload_n dX11_went_71 rfl ?_
          refine ax_iload_n dX11_went_72 rfl ?_
          refine ax_iload dX11_went_73 rfl ?_
          refine ax_cV dX11_went_75 mmX11_leavesToldLayer lkX11_275 miX11_leavesToldLayer msX11_leavesToldLayer (ax_recv_of e64 rfl) rfl rfl (Nat.le_of_ble_eq_true rfl) (Nat.le_of_ble_eq_true rfl) rfl rfl (c_leaves (d := d) hr (by omega) hN e64 hL2 hE2 hS2 hto (fun h3 hs3 hS3 => ⟨_, rfl, ?_⟩))
          by_cases hc : lvP N σ r m
          · rw [b1_t hc]
            have hstep : wnt N σ r (m + 1) = ((if (wnt N σ r m).2.1 = 0 then some m else (wnt N σ r m).1), (wnt N σ r m).2.1 + 1, (wnt N σ r m).2.2 &&& nI m) := if_pos hc
            refine ax_if_eqF 103 dX11_went_78 (by decide) (by decide) ?_
            by_cases hz : (wnt N σ r m).2.1 = 0
            · rw [if_pos hz] at hstep
              rw [hz] at hstep ⊢
              refine ax_iload dX11_went_81 rfl ?_
              refine ax_if_neF 91 dX11_went_83 (by decide) rfl ?_
              refine ax_iload dX11_went_86 rfl ?_
              refine ax_goto 92 dX11_went_88 (by decide) ?_
              refine ax_istore_n dX11_went_92 (Nat.le_of_ble_eq_true rfl) ?_
              refine ax_iinc dX11_went_93 rfl (ax_inc 1) ?_
              refine ax_iload dX11_went_96 rfl ?_
              refine ax_iload dX11_went_98 rfl ?_
              refine ax_iand dX11_went_100 ?_
              refine ax_istore dX11_went_101 (Nat.le_of_ble_eq_true rfl) ?_
              refine ax_iinc dX11_went_103 rfl (ax_inc 1) ?_
              refine ax_goto 54 dX11_went_106 (by decide) ?_
              rw [nI_add, nI_add]
              have key := ih (m + 1) h3 (by omega) (hs2.tr hs3) hS3
              rw [hstep] at key
              exact key
            · rw [if_neg hz] at hstep
              refine ax_iload dX11_went_81 rfl ?_
              refine ax_if_neT 91 dX11_went_83 (by decide) (fun q => hz ((nI_eq (by omega) (by omega)).mp q)) ?_
              refine ax_iload_n dX11_went_91 rfl ?_
              refine ax_istore_n dX11_went_92 (Nat.le_of_ble_eq_true rfl) ?_
              refine ax_iinc dX11_went_93 rfl (ax_inc 1) ?_
              refine ax_iload dX11_went_96 rfl ?_
              refine ax_iload dX11_went_98 rfl ?_
              refine ax_iand dX11_went_100 ?_
              refine ax_istore dX11_went_101 (Nat.le_of_ble_eq_true rfl) ?_
              refine ax_iinc dX11_went_103 rfl (ax_inc 1) ?_
              refine ax_goto 54 dX11_went_106 (by decide) ?_
              rw [nI_add, nI_add]
              have key := ih (m + 1) h3 (by omega) (hs2.tr hs3) hS3
              rw [hstep] at key
              exact key
          · rw [b1_f hc]
            have hstep : wnt N σ r (m + 1) = wnt N σ r m := if_neg hc
            refine ax_if_eqT 103 dX11_went_78 (by decide) rfl ?_
            refine ax_iinc dX11_went_103 rfl (ax_inc 1) ?_
            refine ax_goto 54 dX11_went_106 (by decide) ?_
            rw [nI_add]
            have key := ih (m + 1) h3 (by omega) (hs2.tr hs3) hS3
            rw [hstep] at key
            exact key
      have kp1 : ∀ j, (j < 134 ∨ 137 < j) → h1.2.2 j = h.2.2 j := fun j z => hs1.2.2 j z
      have e64 := (kp1 64 (by omega)).trans e64
      obtain ⟨⟨co, hl, e89, -⟩, -, -, -, -, -, e98, -⟩ := hL.kept (h' := h1) (fun j z1 z2 => kp1 j (by omega))
      refine ax_iconst dX11_went_30 (v := -1) (by decide) ?_
      refine ax_istore_n dX11_went_31 (Nat.le_of_ble_eq_true rfl) ?_
      refine ax_iconst dX11_went_32 (v := nI 0) (by decide) ?_
      refine ax_istore dX11_went_33 (Nat.le_of_ble_eq_true rfl) ?_
      refine ax_iconst dX11_went_35 (v := nI 1) (by decide) ?_
      refine ax_aload_n dX11_went_36 rfl ?_
      refine ax_getf dX11_went_37 flX11_39 e64 rfl ?_
      refine ax_getf dX11_went_40 flX11_164 e89 rfl ?_
      refine ax_getf dX11_went_43 flX11_251 e98 rfl ?_
      refine ax_ishl dX11_went_46 ?_
      refine ax_iconst dX11_went_47 (v := nI 1) (by decide) ?_
      refine ax_isub dX11_went_48 ?_
      refine ax_istore dX11_went_49 (Nat.le_of_ble_eq_true rfl) ?_
      refine ax_iconst dX11_went_51 (v := nI 0) (by decide) ?_
      refine ax_istore dX11_went_52 (Nat.le_of_ble_eq_true rfl) ?_
      exact loop (2 ^ nT N) 0 h1 (by omega) (hs1.wide (by omega) (by omega)) hS1
/-- wars: the draw, the runs that hold, what came -/
def wz (N : Nt) (σ : Sd) (n x : Nat) : Nat → Nat × Nat × Nat
  | 0 => (x, 0, 0)
  | k + 1 => ((wN N (trN N) (nT N) ((wz N σ n x k).1, σ, 0) n).1, (wz N σ n x k).2.1 + (if wR N (wN N (trN N) (nT N) ((wz N σ n x k).1, σ, 0) n).2.1 = 0 then 1 else 0), (wz N σ n x k).2.2 + (wN N (trN N) (nT N) ((wz N σ n x k).1, σ, 0) n).2.2)
def qWars (N : Nt) (σ : Sd) (x u v w : Int32) : Int32 := match rng 0 9999 x, rng 1 20 u, yrs v, ixN 2 w with
  | some s, some k, some n, some j => if nR N = 0 then -1 else if j = 0 then nI (wz N σ n s k).2.1 else nI (wz N σ n s k).2.2
  | _, _, _, _ => -1
theorem wN_x {T x c : Nat} {tr : Nat → Nat → Nat} {τ : Sd} (hx : x < 2147483648) : ∀ n, (wN N tr T (x, τ, c) n).1 < 2147483648
  | 0 => hx
  | n + 1 => dw_lt _
theorem wz_x {n x : Nat} (hx : x < 2147483648) : ∀ k, (wz N σ n x k).1 < 2147483648
  | 0 => hx
  | k + 1 => wN_x (wz_x hx k) n
theorem wR_le (N : Nt) (τ : Sd) : wR N τ ≤ nR N * 1 := sm_le (fun r _ => by split <;> omega)
theorem c_wars {x u v w : Int32} {b y : Nat} (hN : nOK N) (hB : Bd N σ b y) (hb0 : 5300 ≤ b) (hb1 : b ≤ 7000) (hy : y + 50 ≤ 28000) (hC : Cs h N σ) (hq : ∀ h', But h h' waP → Cs h' N σ → Q (.inl (some (.int (qWars N σ x u v w)))) h') : X G (d + 6) mX11_wars 0 (ax_in 9 [.ref 64, .int x, .int u, .int v, .int w]) [] h Q := by
  obtain ⟨⟨dr, e64⟩, ⟨⟨co, hl, e89, -⟩, -⟩, -⟩ := id hC
  have hR := hN.2.2.1
  have bad : ∀ (hz : qWars N σ x u v w = -1), X G (d + 6) mX11_wars 62 [some (.ref 64), some (.int x), some (.int u), some (.int v), some (.int w), some (.int (nI 0)), none, none, none] [] h Q := fun hz => by
    have hq1 := hq _ But.rf hC
    rw [hz] at hq1
    refine ax_iconst dX11_wars_62 (v := -1) (by decide) ?_
    exact ax_ireturn dX11_wars_63 rfl hq1
  have bad2 : ∀ (hz : qWars N σ x u v w = -1), X G (d + 6) mX11_wars 62 [some (.ref 64), some (.int x), some (.int u), some (.int v), some (.int w), some (.int (nI 1)), none, none, none] [] h Q := fun hz => by
    have hq1 := hq _ But.rf hC
    rw [hz] at hq1
    refine ax_iconst dX11_wars_62 (v := -1) (by decide) ?_
    exact ax_ireturn dX11_wars_63 rfl hq1
  have bad0 : ∀ (hz : qWars N σ x u v w = -1), X G (d + 6) mX11_wars 33 [some (.ref 64), some (.int x), some (.int u), some (.int v), some (.int w), none, none, none, none] [] h Q := fun hz => by
    refine ax_iconst dX11_wars_33 (v := nI 0) (by decide) ?_
    refine ax_istore dX11_wars_34 (Nat.le_of_ble_eq_true rfl) ?_
    refine ax_iload dX11_wars_36 rfl ?_
    refine ax_if_eqT 62 dX11_wars_38 (by decide) rfl ?_
    exact bad hz
  rcases rng_cases (a := 0) (b := 9999) (by omega) (by omega) x with ⟨hs, ho⟩ | ⟨s, hs1, hs2, rfl, hs⟩
  · have hz : qWars N σ x u v w = -1 := by unfold qWars; rw [hs]
    rcases ho with q | ⟨q1, q2⟩
    · refine ax_iload_n dX11_wars_0 rfl ?_
      refine ax_if_ltT 33 dX11_wars_1 (by decide) q ?_
      exact bad0 hz
    · refine ax_iload_n dX11_wars_0 rfl ?_
      refine ax_if_ltF 33 dX11_wars_1 (by decide) q1 ?_
      refine ax_iload_n dX11_wars_4 rfl ?_
      refine ax_sipush dX11_wars_5 (v := nI 9999) (by decide) ?_
      refine ax_icmp_gtT 33 dX11_wars_8 (by decide) q2 ?_
      exact bad0 hz
  · refine ax_iload_n dX11_wars_0 rfl ?_
    refine ax_if_ltF 33 dX11_wars_1 (by decide) (nI_pos (by omega)) ?_
    refine ax_iload_n dX11_wars_4 rfl ?_
    refine ax_sipush dX11_wars_5 (v := nI 9999) (by decide) ?_
    refine ax_icmp_gtF 33 dX11_wars_8 (by decide) (nI_nlt (by omega) (by omega)) ?_
    rcases rng_cases (a := 1) (b := 20) (by omega) (by omega) u with ⟨hu, ho⟩ | ⟨k, hk1, hk2, rfl, hu⟩
    · have hz : qWars N σ (nI s) u v w = -1 := by unfold qWars; rw [hs, hu]
      rcases ho with q | ⟨q1, q2⟩
      · refine ax_iload_n dX11_wars_11 rfl ?_
        refine ax_iconst dX11_wars_12 (v := nI 1) (by decide) ?_
        refine ax_icmp_ltT 33 dX11_wars_13 (by decide) q ?_
        exact bad0 hz
      · refine ax_iload_n dX11_wars_11 rfl ?_
        refine ax_iconst dX11_wars_12 (v := nI 1) (by decide) ?_
        refine ax_icmp_ltF 33 dX11_wars_13 (by decide) q1 ?_
        refine ax_iload_n dX11_wars_16 rfl ?_
        refine ax_bipush dX11_wars_17 (v := nI 20) (by decide) ?_
        refine ax_icmp_gtT 33 dX11_wars_19 (by decide) q2 ?_
        exact bad0 hz
    · refine ax_iload_n dX11_wars_11 rfl ?_
      refine ax_iconst dX11_wars_12 (v := nI 1) (by decide) ?_
      refine ax_icmp_ltF 33 dX11_wars_13 (by decide) (nI_nlt (by omega) (by omega)) ?_
      refine ax_iload_n dX11_wars_16 rfl ?_
      refine ax_bipush dX11_wars_17 (v := nI 20) (by decide) ?_
      refine ax_icmp_gtF 33 dX11_wars_19 (by decide) (nI_nlt (by omega) (by omega)) ?_
      refine ax_iload_n dX11_wars_22 rfl ?_
      refine ax_cS dX11_wars_23 mmX11_isYears lkX11_213 mtX11_isYears rfl rfl (Nat.le_of_ble_eq_true rfl) (Nat.le_of_ble_eq_true rfl) rfl rfl (c_isYears ⟨_, rfl, ?_⟩)
      rcases yrs_cases v with ⟨hv, hb⟩ | ⟨n, hn1, hn50, rfl, hv, hb⟩
      · have hz : qWars N σ (nI s) (nI k) v w = -1 := by unfold qWars; rw [hs, hu, hv]
        rw [hb]
        refine ax_if_eqT 33 dX11_wars_26 (by decide) rfl ?_
        exact bad0 hz
      · rw [hb]
        refine ax_if_eqF 33 dX11_wars_26 (by decide) (by decide) ?_
        refine ax_iconst dX11_wars_29 (v := nI 1) (by decide) ?_
        refine ax_goto 34 dX11_wars_30 (by decide) ?_
        refine ax_istore dX11_wars_34 (Nat.le_of_ble_eq_true rfl) ?_
        refine ax_iload dX11_wars_36 rfl ?_
        refine ax_if_eqF 62 dX11_wars_38 (by decide) (by decide) ?_
        rcases ix_cases (n := 2) (by omega) w with ⟨hw, -, ho⟩ | ⟨j, hj, rfl, hw, -⟩
        · have hz : qWars N σ (nI s) (nI k) (nI n) w = -1 := by unfold qWars; rw [hs, hu, hv, hw]
          by_cases h0 : w < 0
          · refine ax_iload dX11_wars_41 rfl ?_
            refine ax_if_ltT 62 dX11_wars_43 (by decide) h0 ?_
            exact bad2 hz
          · have h1 : nI 2 ≤ w := ho.resolve_left h0
            refine ax_iload dX11_wars_41 rfl ?_
            refine ax_if_ltF 62 dX11_wars_43 (by decide) h0 ?_
            refine ax_iload dX11_wars_46 rfl ?_
            refine ax_iconst dX11_wars_48 (v := nI 1) (by decide) ?_
            refine ax_icmp_gtT 62 dX11_wars_49 (by decide) (Int32.lt_of_lt_of_le (by decide) h1) ?_
            exact bad2 hz
        · refine ax_iload dX11_wars_41 rfl ?_
          refine ax_if_ltF 62 dX11_wars_43 (by decide) (nI_pos (by omega)) ?_
          refine ax_iload dX11_wars_46 rfl ?_
          refine ax_iconst dX11_wars_48 (v := nI 1) (by decide) ?_
          refine ax_icmp_gtF 62 dX11_wars_49 (by decide) (nI_nlt (by omega) (by omega)) ?_
          by_cases hR0 : nR N = 0
          · have hz : qWars N σ (nI s) (nI k) (nI n) (nI j) = -1 := by unfold qWars; rw [hs, hu, hv, hw]; exact if_pos hR0
            refine ax_aload_n dX11_wars_52 rfl ?_
            refine ax_getf dX11_wars_53 flX11_39 e64 rfl ?_
            refine ax_getf dX11_wars_56 flX11_279 e89 rfl ?_
            refine ax_if_neF 64 dX11_wars_59 (by decide) (by rw [hR0]; rfl) ?_
            exact bad2 hz
          · have hz : qWars N σ (nI s) (nI k) (nI n) (nI j) = if j = 0 then nI (wz N σ n s k).2.1 else nI (wz N σ n s k).2.2 := by unfold qWars; rw [hs, hu, hv, hw]; exact if_neg hR0
            rw [hz] at hq
            refine ax_aload_n dX11_wars_52 rfl ?_
            refine ax_getf dX11_wars_53 flX11_39 e64 rfl ?_
            refine ax_getf dX11_wars_56 flX11_279 e89 rfl ?_
            refine ax_if_neT 64 dX11_wars_59 (by decide) (nI_ne0 (by omega) (by omega)) ?_
            refine ax_aload_n dX11_wars_64 rfl ?_
            refine ax_iload_n dX11_wars_65 rfl ?_
            refine ax_i2l dX11_wars_66 ?_
            rw [nI_l (by omega)]
            refine ax_putf dX11_wars_67 flX11_282 e64 (Nat.le_of_ble_eq_true rfl) (fun _ => ⟨rfl, rfl⟩) ?_
            refine ax_iconst dX11_wars_70 (v := nI 0) (by decide) ?_
            refine ax_istore dX11_wars_71 (Nat.le_of_ble_eq_true rfl) ?_
            refine ax_iconst dX11_wars_73 (v := nI 0) (by decide) ?_
            refine ax_istore dX11_wars_74 (Nat.le_of_ble_eq_true rfl) ?_
            refine ax_iconst dX11_wars_76 (v := nI 0) (by decide) ?_
            refine ax_istore dX11_wars_77 (Nat.le_of_ble_eq_true rfl) ?_
            have loop : ∀ (m i : Nat) (h1 : ax_H), i + m = k → But h h1 waP → Cs h1 N σ → h1.2.2 64 = some (eX (lN (wz N σ n s i).1)) → X G (d + 6) mX11_wars 79 [some (.ref 64), some (.int (nI s)), some (.int (nI k)), some (.int (nI n)), some (.int (nI j)), some (.int (nI 1)), some (.int (nI (wz N σ n s i).2.1)), some (.int (nI (wz N σ n s i).2.2)), some (.int (nI i))] [] h1 Q := by
              intro m
              induction m with
              | zero =>
                intro i h1 hi hbb hC1 e64
                obtain rfl : i = k := by omega
                have hq1 := hq _ hbb hC1
                refine ax_iload dX11_wars_79 rfl ?_
                refine ax_iload_n dX11_wars_81 rfl ?_
                refine ax_icmp_geT 126 dX11_wars_82 (by decide) (Int32.le_refl _) ?_
                by_cases hj0 : j = 0
                · rw [if_pos hj0] at hq1
                  subst hj0
                  refine ax_iload dX11_wars_126 rfl ?_
                  refine ax_if_neF 136 dX11_wars_128 (by decide) rfl ?_
                  refine ax_iload dX11_wars_131 rfl ?_
                  refine ax_goto 138 dX11_wars_133 (by decide) ?_
                  exact ax_ireturn dX11_wars_138 rfl hq1
                · rw [if_neg hj0] at hq1
                  refine ax_iload dX11_wars_126 rfl ?_
                  refine ax_if_neT 136 dX11_wars_128 (by decide) (nI_ne0 (by omega) (by omega)) ?_
                  refine ax_iload dX11_wars_136 rfl ?_
                  exact ax_ireturn dX11_wars_138 rfl hq1
              | succ m ih =>
                intro i h1 hi hbb hC1 e64
                have hxi := wz_x (N := N) (σ := σ) (n := n) (x := s) (by omega) i
                refine ax_iload dX11_wars_79 rfl ?_
                refine ax_iload_n dX11_wars_81 rfl ?_
                refine ax_icmp_geF 126 dX11_wars_82 (by decide) (nI_ge (by omega) (by omega)) ?_
                refine ax_aload_n dX11_wars_85 rfl ?_
                refine ax_cV dX11_wars_86 mmX11_beginTrial lkX11_236 miX11_beginTrial msX11_beginTrial (ax_recv_of e64 rfl) rfl rfl (Nat.le_of_ble_eq_true rfl) (Nat.le_of_ble_eq_true rfl) rfl rfl (c_beginTrial (d := d + 3) hN hC1 (fun h2 hb2 hE2 hT2 hC2 => ⟨_, rfl, ?_⟩))
                have e64 := (hb2.2.2 64 (by omega)).trans e64
                refine ax_iload dX11_wars_89 rfl ?_
                refine ax_aload_n dX11_wars_91 rfl ?_
                refine ax_iload_n dX11_wars_92 rfl ?_
                refine ax_cV dX11_wars_93 mmX11_cameInWar lkX11_286 miX11_cameInWar msX11_cameInWar (ax_recv_of e64 rfl) rfl rfl (Nat.le_of_ble_eq_true rfl) (Nat.le_of_ble_eq_true rfl) rfl rfl (c_cameInWar (d := d) hxi (by omega) hN.tr hN hB hb0 (by omega) (by omega) e64 hC2 hT2 hE2 (fun h3 hb3 hC3 e64 hE3 => ⟨_, rfl, ?_⟩))
                have hB3 := hB.wars (x := (wz N σ n s i).1) (c := 0) hN hN.tr hb0 n
                refine ax_iadd dX11_wars_96 ?_
                refine ax_istore dX11_wars_97 (Nat.le_of_ble_eq_true rfl) ?_
                refine ax_iload dX11_wars_99 rfl ?_
                refine ax_aload_n dX11_wars_101 rfl ?_
                refine ax_aload_n dX11_wars_102 rfl ?_
                refine ax_getf dX11_wars_103 flX11_51 e64 rfl ?_
                rw [nI_add]
                refine ax_cV dX11_wars_106 mmX11_wornRoads lkX11_289 miX11_wornRoads msX11_wornRoads (ax_recv_of e64 rfl) rfl rfl (Nat.le_of_ble_eq_true rfl) (Nat.le_of_ble_eq_true rfl) rfl rfl (c_wornRoads (d := d + 4) hN (fun r hr => by have := hB3.1 r hr; omega) e64 hC3.2.1 hE3 ⟨_, rfl, ?_⟩)
                have hwl := wR_le N (wN N (trN N) (nT N) ((wz N σ n s i).1, σ, 0) n).2.1
                have hbe : But h h3 waP := (hbb.tr (hb2.wide (fun j z => Or.inr (Or.inl z)))).tr hb3
                have key := ih (i + 1) h3 (by omega) hbe hC3 e64
                by_cases hc : wR N (wN N (trN N) (nT N) ((wz N σ n s i).1, σ, 0) n).2.1 = 0
                · rw [hc]
                  have hstep : wz N σ n s (i + 1) = ((wN N (trN N) (nT N) ((wz N σ n s i).1, σ, 0) n).1, (wz N σ n s i).2.1 + 1, (wz N σ n s i).2.2 + (wN N (trN N) (nT N) ((wz N σ n s i).1, σ, 0) n).2.2) := by
                    show (_, (wz N σ n s i).2.1 + (if _ then 1 else 0), _) = _
                    rw [if_pos hc]
                  rw [hstep] at key
                  refine ax_if_neF 116 dX11_wars_109 (by decide) rfl ?_
                  refine ax_iconst dX11_wars_112 (v := nI 1) (by decide) ?_
                  refine ax_goto 117 dX11_wars_113 (by decide) ?_
                  refine ax_iadd dX11_wars_117 ?_
                  refine ax_istore dX11_wars_118 (Nat.le_of_ble_eq_true rfl) ?_
                  refine ax_iinc dX11_wars_120 rfl (ax_inc 1) ?_
                  refine ax_goto 79 dX11_wars_123 (by decide) ?_
                  rw [nI_add, nI_add]
                  exact key
                · have hstep : wz N σ n s (i + 1) = ((wN N (trN N) (nT N) ((wz N σ n s i).1, σ, 0) n).1, (wz N σ n s i).2.1 + 0, (wz N σ n s i).2.2 + (wN N (trN N) (nT N) ((wz N σ n s i).1, σ, 0) n).2.2) := by
                    show (_, (wz N σ n s i).2.1 + (if _ then 1 else 0), _) = _
                    rw [if_neg hc]
                  rw [hstep] at key
                  refine ax_if_neT 116 dX11_wars_109 (by decide) (nI_ne0 (by omega) (by omega)) ?_
                  refine ax_iconst dX11_wars_116 (v := nI 0) (by decide) ?_
                  refine ax_iadd dX11_wars_117 ?_
                  refine ax_istore dX11_wars_118 (Nat.le_of_ble_eq_true rfl) ?_
                  refine ax_iinc dX11_wars_120 rfl (ax_inc 1) ?_
                  refine ax_goto 79 dX11_wars_123 (by decide) ?_
                  rw [nI_add, nI_add]
                  exact key
            exact loop k 0 _ (by omega) (But.rf.wr (Or.inl rfl)) hC.dr ax_wr_eq
end CA6
