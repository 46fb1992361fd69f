section MB9
variable {G : ax_G} {d : Nat} {h : ax_H} {Q : ax_O → ax_H → Prop} {N : Nt} {σ : Sd} {μ : Nat → Option Sd} {th ta : Int32}
/-- a trade more in the model's net -/
def ntU (F : Nat → Int32) (t : Nat) (a b s l : Int32) : Nat → Int32 := upd (upd (upd (upd F (57 + 4 * t) a) (57 + 4 * t + 1) b) (57 + 4 * t + 2) s) (57 + 4 * t + 3) l
theorem ntU_lo {F : Nat → Int32} {t j : Nat} {a b s l : Int32} (hj : j < 57 + 4 * t) : ntU F t a b s l j = F j := by
  unfold ntU
  rw [pk_un (by omega), pk_un (by omega), pk_un (by omega), pk_un (by omega)]
theorem ntU_at {F : Nat → Int32} {t : Nat} {a b s l : Int32} : ntU F t a b s l (57 + 4 * t) = a ∧ ntU F t a b s l (57 + 4 * t + 1) = b ∧ ntU F t a b s l (57 + 4 * t + 2) = s ∧ ntU F t a b s l (57 + 4 * t + 3) = l := by
  unfold ntU
  refine ⟨?_, ?_, ?_, ?_⟩
  · rw [pk_un (by omega), pk_un (by omega), pk_un (by omega), pk_us]
  · rw [pk_un (by omega), pk_un (by omega), pk_us]
  · rw [pk_un (by omega), pk_us]
  · rw [pk_us]
theorem FnB.nt {F : Nat → Int32} {t : Nat} {a b s l : Int32} (hN : nOK N) (x : FnB F N) : FnB (ntU F t a b s l) N := by
  obtain ⟨f0, f1, f2, f3, fs, fr⟩ := x
  have := hN.1
  have := hN.2.2.1
  exact ⟨(ntU_lo (by omega)).trans f0, (ntU_lo (by omega)).trans f1, (ntU_lo (by omega)).trans f2, (ntU_lo (by omega)).trans f3, fun q hq => ⟨(ntU_lo (by omega)).trans (fs q hq).1, (ntU_lo (by omega)).trans (fs q hq).2⟩, fun q hq => ⟨(ntU_lo (by omega)).trans (fr q hq).1, (ntU_lo (by omega)).trans (fr q hq).2.1, (ntU_lo (by omega)).trans (fr q hq).2.2⟩⟩
theorem FnL.nt {F O A : Nat → Int32} {t : Nat} {a b s l : Int32} (x : FnL F O A N) : FnL (ntU F t a b s l) O A N := by
  have e : ∀ i, i < 3 → ntU F t a b s l (4 + i) = F (4 + i) := fun i hi => ntU_lo (by omega)
  intro h0
  obtain ⟨x0, x1, x2⟩ := x h0
  refine ⟨?_, ?_, ?_⟩
  · unfold lwM at x0 ⊢; rw [e 0 (by omega)]; exact x0
  · unfold lwM at x1 ⊢; rw [e 1 (by omega)]; exact x1
  · unfold lwM at x2 ⊢; rw [e 2 (by omega)]; exact x2
theorem FnT.nt {F : Nat → Int32} {T : Nat} {tr : Nat → Nat → Nat} {a b s l : Int32} (x : FnT F T tr) : FnT (ntU F T a b s l) T tr := fun t ht i hi => (ntU_lo (by omega)).trans (x t ht i hi)
theorem FnT.more {F : Nat → Int32} {T a b s l : Nat} {tr : Nat → Nat → Nat} (x : FnT F T tr) : FnT (ntU F T (nI a) (nI b) (nI s) (nI l)) (T + 1) (trA tr T a b s l) := fun t ht i hi => by
  unfold trA
  by_cases hc : t = T
  · rw [if_pos hc, hc]
    obtain ⟨q0, q1, q2, q3⟩ := ntU_at (F := F) (t := T) (a := nI a) (b := nI b) (s := nI s) (l := nI l)
    rcases (show i = 0 ∨ i = 1 ∨ i = 2 ∨ i = 3 by omega) with rfl | rfl | rfl | rfl
    · exact q0
    · exact q1
    · exact q2
    · exact q3
  · rw [if_neg hc]
    exact x.nt t (by omega) i hi
theorem MC.nt {h' : ax_H} {F F' S O A : Nat → Int32} (a : MC h F S O A) (hk : ∀ j, 152 ≤ j → j ≤ 159 → h'.2.2 j = h.2.2 j) (e : h'.2.2 151 = some (eI 168 F')) : MC h' F' S O A := by
  obtain ⟨-, a2, a3, a4, a5, a6⟩ := a
  exact ⟨e, (hk _ (by omega) (by omega)).trans a2, (hk _ (by omega) (by omega)).trans a3, (hk _ (by omega) (by omega)).trans a4, a5.kept (hk _ (by omega) (by omega)), a6.kept (hk _ (by omega) (by omega))⟩
theorem k_newcomer {a b s l n w : Int32} {b' y : Nat} (hN : nOK N) (h6 : σ 6 (nT N) = 0) (hB0 : Bd N σ b' y) (hb0' : 5300 ≤ b') (hb1' : b' < 100000) (hy : y + 50 ≤ 28000) (hI : MoI h th ta N σ μ)
    (hq : nwG N a b s l n w → ∀ h', But h h' moP → MoI h' 0 ta N σ μ → Q (.inl (some (.int (nwV N σ a.toNatClampNeg b.toNatClampNeg s.toNatClampNeg l.toNatClampNeg n.toNatClampNeg w)))) h')
    (hx : ¬ nwG N a b s l n w → ∀ h', But h h' moP → MoI h' 1 ta N σ μ → Q (.inl (some (.int 0))) h') : X G (d + 13) mX12_newcomer 0 (ax_in 12 [.ref 145, .int a, .int b, .int s, .int l, .int n, .int w]) [] h Q := by
  obtain ⟨si, pt, fa, co, nm, rd, bc, bm, gg, F, S, O, A, e145, hB⟩ := hI
  obtain ⟨hF, hFT, hL, hM, hR, hSt, hMk⟩ := id hB
  obtain ⟨e151, e152, e153, e159, a157, a158⟩ := id hM
  obtain ⟨f0, f1, f2, f3, fs, fr⟩ := id hF
  have hS5 := hN.1
  have hP7 := hN.2.1
  have hR10 := hN.2.2.1
  have hT6 := hN.2.2.2.1
  have bad : ¬ nwG N a b s l n w → X G (d + 13) mX12_newcomer 74 [some (.ref 145), some (.int a), some (.int b), some (.int s), some (.int l), some (.int n), some (.int w), none, none, none, none, none] [] h Q := fun z => by
    refine ax_iconst dX12_newcomer_74 (v := nI 0) (by decide) ?_
    refine ax_istore dX12_newcomer_75 (Nat.le_of_ble_eq_true rfl) ?_
    refine ax_aload_n dX12_newcomer_77 rfl ?_
    refine ax_iload dX12_newcomer_78 rfl ?_
    refine ax_if_eqT 87 dX12_newcomer_80 (by decide) rfl ?_
    refine ax_iconst dX12_newcomer_87 (v := nI 1) (by decide) ?_
    refine ax_putf dX12_newcomer_88 flX12_1 e145 (Nat.le_of_ble_eq_true rfl) (fun _ => ⟨rfl, rfl⟩) ?_
    refine ax_iload dX12_newcomer_91 rfl ?_
    refine ax_if_neF 98 dX12_newcomer_93 (by decide) rfl ?_
    refine ax_iconst dX12_newcomer_96 (v := nI 0) (by decide) ?_
    exact ax_ireturn dX12_newcomer_97 rfl (hx z _ (But.rf.wr (Or.inl rfl)) ⟨si, pt, fa, co, nm, rd, bc, bm, gg, F, S, O, A, ax_wr_eq, hB.kept (fun j z1 z2 => ax_wr_ne (by omega))⟩)
  refine ax_aload_n dX12_newcomer_0 rfl ?_
  refine ax_iload_n dX12_newcomer_1 rfl ?_
  refine ax_cV dX12_newcomer_2 mmX12_isPlaceOf lkX12_365 miX12_isPlaceOf msX12_isPlaceOf (ax_recv_of e145 rfl) rfl rfl (Nat.le_of_ble_eq_true rfl) (Nat.le_of_ble_eq_true rfl) rfl rfl (k_isPlaceOf e145 e151 ⟨_, rfl, ?_⟩)
  rw [f1]
  by_cases g1 : ¬ a < 0 ∧ ¬ nI (nP N) ≤ a
  case neg =>
    rw [b1_f g1]
    refine ax_if_eqT 74 dX12_newcomer_5 (by decide) rfl ?_
    exact bad (fun q => g1 q.1)
  rw [b1_t g1]
  refine ax_if_eqF 74 dX12_newcomer_5 (by decide) (by decide) ?_
  refine ax_aload_n dX12_newcomer_8 rfl ?_
  refine ax_iload_n dX12_newcomer_9 rfl ?_
  refine ax_cV dX12_newcomer_10 mmX12_isPlaceOf lkX12_365 miX12_isPlaceOf msX12_isPlaceOf (ax_recv_of e145 rfl) rfl rfl (Nat.le_of_ble_eq_true rfl) (Nat.le_of_ble_eq_true rfl) rfl rfl (k_isPlaceOf e145 e151 ⟨_, rfl, ?_⟩)
  rw [f1]
  by_cases g2 : ¬ b < 0 ∧ ¬ nI (nP N) ≤ b
  case neg =>
    rw [b1_f g2]
    refine ax_if_eqT 74 dX12_newcomer_13 (by decide) rfl ?_
    exact bad (fun q => g2 q.2.1)
  rw [b1_t g2]
  refine ax_if_eqF 74 dX12_newcomer_13 (by decide) (by decide) ?_
  by_cases g3 : a = b
  case pos =>
    refine ax_iload_n dX12_newcomer_16 rfl ?_
    refine ax_iload_n dX12_newcomer_17 rfl ?_
    refine ax_icmp_eqT 74 dX12_newcomer_18 (by decide) g3 ?_
    exact bad (fun q => q.2.2.1 g3)
  refine ax_iload_n dX12_newcomer_16 rfl ?_
  refine ax_iload_n dX12_newcomer_17 rfl ?_
  refine ax_icmp_eqF 74 dX12_newcomer_18 (by decide) g3 ?_
  refine ax_aload_n dX12_newcomer_21 rfl ?_
  refine ax_iload_n dX12_newcomer_22 rfl ?_
  refine ax_cV dX12_newcomer_23 mmX12_isStuff lkX12_330 miX12_isStuff msX12_isStuff (ax_recv_of e145 rfl) rfl rfl (Nat.le_of_ble_eq_true rfl) (Nat.le_of_ble_eq_true rfl) rfl rfl (k_isStuff e145 e151 ⟨_, rfl, ?_⟩)
  rw [f0]
  by_cases g4 : ¬ s < 0 ∧ ¬ nI (nS N) ≤ s
  case neg =>
    rw [b1_f g4]
    refine ax_if_eqT 74 dX12_newcomer_26 (by decide) rfl ?_
    exact bad (fun q => g4 q.2.2.2.1)
  rw [b1_t g4]
  refine ax_if_eqF 74 dX12_newcomer_26 (by decide) (by decide) ?_
  refine ax_iload dX12_newcomer_29 rfl ?_
  refine ax_iconst dX12_newcomer_31 (v := nI 1) (by decide) ?_
  refine ax_sipush dX12_newcomer_32 (v := nI 999) (by decide) ?_
  refine ax_cS dX12_newcomer_35 mmX12_within lkX12_333 mtX12_within rfl rfl (Nat.le_of_ble_eq_true rfl) (Nat.le_of_ble_eq_true rfl) rfl rfl (k_within ⟨_, rfl, ?_⟩)
  by_cases g5 : ¬ l < nI 1 ∧ ¬ nI 999 < l
  case neg =>
    rw [b1_f g5]
    refine ax_if_eqT 74 dX12_newcomer_38 (by decide) rfl ?_
    exact bad (fun q => g5 ⟨q.2.2.2.2.1, q.2.2.2.2.2.1⟩)
  rw [b1_t g5]
  refine ax_if_eqF 74 dX12_newcomer_38 (by decide) (by decide) ?_
  refine ax_iload dX12_newcomer_41 rfl ?_
  refine ax_cS dX12_newcomer_43 mmX12_areYears lkX12_343 mtX12_areYears rfl rfl (Nat.le_of_ble_eq_true rfl) (Nat.le_of_ble_eq_true rfl) rfl rfl (k_areYears ⟨_, rfl, ?_⟩)
  by_cases g8 : ¬ n < nI 1 ∧ ¬ nI 50 < n
  case neg =>
    rw [b1_f g8]
    refine ax_if_eqT 74 dX12_newcomer_46 (by decide) rfl ?_
    exact bad (fun q => g8 q.2.2.2.2.2.2.2.1)
  rw [b1_t g8]
  refine ax_if_eqF 74 dX12_newcomer_46 (by decide) (by decide) ?_
  refine ax_iload dX12_newcomer_49 rfl ?_
  refine ax_iconst dX12_newcomer_51 (v := nI 0) (by decide) ?_
  refine ax_iconst dX12_newcomer_52 (v := nI 1) (by decide) ?_
  refine ax_cS dX12_newcomer_53 mmX12_within lkX12_333 mtX12_within rfl rfl (Nat.le_of_ble_eq_true rfl) (Nat.le_of_ble_eq_true rfl) rfl rfl (k_within ⟨_, rfl, ?_⟩)
  by_cases g9 : ¬ w < nI 0 ∧ ¬ nI 1 < w
  case neg =>
    rw [b1_f g9]
    refine ax_if_eqT 74 dX12_newcomer_56 (by decide) rfl ?_
    exact bad (fun q => g9 ⟨q.2.2.2.2.2.2.2.2.1, Int32.not_lt.mpr q.2.2.2.2.2.2.2.2.2⟩)
  rw [b1_t g9]
  refine ax_if_eqF 74 dX12_newcomer_56 (by decide) (by decide) ?_
  refine ax_aload_n dX12_newcomer_59 rfl ?_
  refine ax_getf dX12_newcomer_60 flX12_75 e145 rfl ?_
  refine ax_iconst dX12_newcomer_63 (v := nI 3) (by decide) ?_
  refine ax_iald dX12_newcomer_64 e151 (ax_ix_nI (j := 3) (by decide) (by decide)) ?_
  rw [f3]
  by_cases g7 : nT N < 6
  case neg =>
    refine ax_bipush dX12_newcomer_65 (v := nI 6) (by decide) ?_
    refine ax_icmp_geT 74 dX12_newcomer_67 (by decide) (nI_le (by omega) (by omega)) ?_
    exact bad (fun q => g7 q.2.2.2.2.2.2.1)
  refine ax_bipush dX12_newcomer_65 (v := nI 6) (by decide) ?_
  refine ax_icmp_geF 74 dX12_newcomer_67 (by decide) (nI_ge (by omega) (by omega)) ?_
  refine ax_iconst dX12_newcomer_70 (v := nI 1) (by decide) ?_
  refine ax_goto 75 dX12_newcomer_71 (by decide) ?_
  refine ax_istore dX12_newcomer_75 (Nat.le_of_ble_eq_true rfl) ?_
  refine ax_aload_n dX12_newcomer_77 rfl ?_
  refine ax_iload dX12_newcomer_78 rfl ?_
  refine ax_if_eqF 87 dX12_newcomer_80 (by decide) (by decide) ?_
  refine ax_iconst dX12_newcomer_83 (v := nI 0) (by decide) ?_
  refine ax_goto 88 dX12_newcomer_84 (by decide) ?_
  refine ax_putf dX12_newcomer_88 flX12_1 e145 (Nat.le_of_ble_eq_true rfl) (fun _ => ⟨rfl, rfl⟩) ?_
  refine ax_iload dX12_newcomer_91 rfl ?_
  refine ax_if_neT 98 dX12_newcomer_93 (by decide) (by decide) ?_
  have hq := hq ⟨g1, g2, g3, g4, g5.1, g5.2, g7, g8, g9.1, Int32.not_lt.mp g9.2⟩
  obtain ⟨a', ha', rfl⟩ := nI_of g1.1
  obtain ⟨b2, hb2', rfl⟩ := nI_of g2.1
  obtain ⟨s', hs', rfl⟩ := nI_of g4.1
  obtain ⟨l', hl', rfl⟩ := nI_of (show ¬ l < 0 from fun q => g5.1 (Int32.lt_of_lt_of_le q (nI_pos' (by decide))))
  obtain ⟨n', hn', rfl⟩ := nI_of (show ¬ n < 0 from fun q => g8.1 (Int32.lt_of_lt_of_le q (nI_pos' (by decide))))
  rw [nI_clamp ha', nI_clamp hb2', nI_clamp hs', nI_clamp hl', nI_clamp hn'] at hq
  have k1 : a' < nP N := Nat.lt_of_not_le (fun q => g1.2 (nI_le q (by omega)))
  have k2 : b2 < nP N := Nat.lt_of_not_le (fun q => g2.2 (nI_le q (by omega)))
  have k4 : s' < nS N := Nat.lt_of_not_le (fun q => g4.2 (nI_le q (by omega)))
  have k5 : 1 ≤ l' := Nat.le_of_not_lt (fun q => g5.1 (nI_lt q (by omega)))
  have k6 : l' ≤ 999 := Nat.le_of_not_lt (fun q => g5.2 (nI_lt q (by omega)))
  have k8 : n' ≤ 50 := Nat.le_of_not_lt (fun q => g8.2 (nI_lt q (by omega)))
  have htr := nw_ok (a := a') (b := b2) (s := s') (l := l') hN g7 k1 k2 k4 (fun q => g3 (by rw [q])) k5 k6
  refine ax_hp (h1 := ax_wr h 145 (eM 0 ta si pt fa co nm rd 0 0 (-1) (-1) bc bm gg)) rfl ?_
  have hb0 : But h (ax_wr h 145 (eM 0 ta si pt fa co nm rd 0 0 (-1) (-1) bc bm gg)) moP := But.rf.wr (Or.inl rfl)
  have hB := hB.kept (h' := ax_wr h 145 (eM 0 ta si pt fa co nm rd 0 0 (-1) (-1) bc bm gg)) (fun j z1 z2 => ax_wr_ne (by omega))
  have e145 : (ax_wr h 145 (eM 0 ta si pt fa co nm rd 0 0 (-1) (-1) bc bm gg)).2.2 145 = some (eM 0 ta si pt fa co nm rd 0 0 (-1) (-1) bc bm gg) := ax_wr_eq
  generalize ax_wr h 145 (eM 0 ta si pt fa co nm rd 0 0 (-1) (-1) bc bm gg) = h1 at hb0 hB e145 ⊢
  obtain ⟨-, -, -, hM, hR, hSt, hMk⟩ := id hB
  have hT0 : F 3 + 0 = nI (nT N) := by rw [f3]; exact Int32.add_zero _
  refine ax_aload_n dX12_newcomer_98 rfl ?_
  refine ax_iload dX12_newcomer_99 rfl ?_
  refine ax_cV dX12_newcomer_101 mmX12_holesBehind lkX12_362 miX12_holesBehind msX12_holesBehind (ax_recv_of e145 rfl) rfl rfl (Nat.le_of_ble_eq_true rfl) (Nat.le_of_ble_eq_true rfl) rfl rfl (k_holesBehind (d := d) (swo := none) hN.tr hFT.td hT0 (Or.inl rfl) rfl (fun r hr => by cases hr) hN hB0 hb0' hb1' (by omega) hF hL hM hR hSt.1 hSt.2.1 e145 (fun h2 S2 bc2 bm2 hb2 e145 hM2 hR2 hlo2 => ⟨_, rfl, ?_⟩))
  have hB2 := hB.bk hN hb2 hM2 hR2 hlo2
  have hbb2 : But h h2 moP := hb0.tr (hb2.wide (fun j z => by unfold psP at z; unfold moP; omega))
  obtain ⟨-, -, -, hM2, hR2, hSt2, hMk2⟩ := id hB2
  have e151 := hM2.1
  refine ax_istore dX12_newcomer_104 (Nat.le_of_ble_eq_true rfl) ?_
  refine ax_aload_n dX12_newcomer_106 rfl ?_
  refine ax_getf dX12_newcomer_107 flX12_75 e145 rfl ?_
  refine ax_iconst dX12_newcomer_110 (v := nI 3) (by decide) ?_
  refine ax_iald dX12_newcomer_111 e151 (ax_ix_nI (j := 3) (by decide) (by decide)) ?_
  rw [f3]
  refine ax_istore dX12_newcomer_112 (Nat.le_of_ble_eq_true rfl) ?_
  refine ax_aload_n dX12_newcomer_114 rfl ?_
  refine ax_getf dX12_newcomer_115 flX12_75 e145 rfl ?_
  refine ax_bipush dX12_newcomer_118 (v := nI 57) (by decide) ?_
  refine ax_iconst dX12_newcomer_120 (v := nI 4) (by decide) ?_
  refine ax_iload dX12_newcomer_121 rfl ?_
  refine ax_imul dX12_newcomer_123 ?_
  refine ax_iadd dX12_newcomer_124 ?_
  rw [pk_mul 4 (nT N), nI_add 57 (4 * nT N)]
  refine ax_iload_n dX12_newcomer_125 rfl ?_
  refine ax_iast dX12_newcomer_126 e151 (ax_ix_nI (j := 57 + 4 * nT N) (by omega) (by decide)) ?_
  refine ax_aload_n dX12_newcomer_127 rfl ?_
  refine ax_getf dX12_newcomer_128 flX12_75 ((ax_wr_ne (by decide)).trans (e145)) rfl ?_
  refine ax_bipush dX12_newcomer_131 (v := nI 57) (by decide) ?_
  refine ax_iconst dX12_newcomer_133 (v := nI 4) (by decide) ?_
  refine ax_iload dX12_newcomer_134 rfl ?_
  refine ax_imul dX12_newcomer_136 ?_
  refine ax_iadd dX12_newcomer_137 ?_
  refine ax_iconst dX12_newcomer_138 (v := nI 1) (by decide) ?_
  refine ax_iadd dX12_newcomer_139 ?_
  rw [pk_mul 4 (nT N), nI_add 57 (4 * nT N), nI_add (57 + 4 * nT N) 1]
  refine ax_iload_n dX12_newcomer_140 rfl ?_
  refine ax_iast dX12_newcomer_141 ax_wr_eq (ax_ix_nI (j := 57 + 4 * nT N + 1) (by omega) (by decide)) ?_
  rw [ax_wr_wr]
  refine ax_aload_n dX12_newcomer_142 rfl ?_
  refine ax_getf dX12_newcomer_143 flX12_75 ((ax_wr_ne (by decide)).trans (e145)) rfl ?_
  refine ax_bipush dX12_newcomer_146 (v := nI 57) (by decide) ?_
  refine ax_iconst dX12_newcomer_148 (v := nI 4) (by decide) ?_
  refine ax_iload dX12_newcomer_149 rfl ?_
  refine ax_imul dX12_newcomer_151 ?_
  refine ax_iadd dX12_newcomer_152 ?_
  refine ax_iconst dX12_newcomer_153 (v := nI 2) (by decide) ?_
  refine ax_iadd dX12_newcomer_154 ?_
  rw [pk_mul 4 (nT N), nI_add 57 (4 * nT N), nI_add (57 + 4 * nT N) 2]
  refine ax_iload_n dX12_newcomer_155 rfl ?_
  refine ax_iast dX12_newcomer_156 ax_wr_eq (ax_ix_nI (j := 57 + 4 * nT N + 2) (by omega) (by decide)) ?_
  rw [ax_wr_wr]
  refine ax_aload_n dX12_newcomer_157 rfl ?_
  refine ax_getf dX12_newcomer_158 flX12_75 ((ax_wr_ne (by decide)).trans (e145)) rfl ?_
  refine ax_bipush dX12_newcomer_161 (v := nI 57) (by decide) ?_
  refine ax_iconst dX12_newcomer_163 (v := nI 4) (by decide) ?_
  refine ax_iload dX12_newcomer_164 rfl ?_
  refine ax_imul dX12_newcomer_166 ?_
  refine ax_iadd dX12_newcomer_167 ?_
  refine ax_iconst dX12_newcomer_168 (v := nI 3) (by decide) ?_
  refine ax_iadd dX12_newcomer_169 ?_
  rw [pk_mul 4 (nT N), nI_add 57 (4 * nT N), nI_add (57 + 4 * nT N) 3]
  refine ax_iload dX12_newcomer_170 rfl ?_
  refine ax_iast dX12_newcomer_172 ax_wr_eq (ax_ix_nI (j := 57 + 4 * nT N + 3) (by omega) (by decide)) ?_
  rw [ax_wr_wr]
  refine ax_aload_n dX12_newcomer_173 rfl ?_
  refine ax_iconst dX12_newcomer_174 (v := nI 1) (by decide) ?_
  refine ax_putf dX12_newcomer_175 flX12_270 ((ax_wr_ne (by decide)).trans (e145)) (Nat.le_of_ble_eq_true rfl) (nar_b (Or.inr rfl)) ?_
  refine ax_hp (h1 := ax_wr (ax_wr h2 151 (eI 168 (ntU F (nT N) (nI a') (nI b2) (nI s') (nI l')))) 145 (eM 0 ta si pt fa co nm rd 0 1 (-1) (-1) bc2 bm2 gg)) rfl ?_
  have hb3 : But h (ax_wr (ax_wr h2 151 (eI 168 (ntU F (nT N) (nI a') (nI b2) (nI s') (nI l')))) 145 (eM 0 ta si pt fa co nm rd 0 1 (-1) (-1) bc2 bm2 gg)) moP := (hbb2.wr (Or.inr (Or.inl rfl))).wr (Or.inl rfl)
  have hB3 : MoB (ax_wr (ax_wr h2 151 (eI 168 (ntU F (nT N) (nI a') (nI b2) (nI s') (nI l')))) 145 (eM 0 ta si pt fa co nm rd 0 1 (-1) (-1) bc2 bm2 gg)) (ntU F (nT N) (nI a') (nI b2) (nI s') (nI l')) S2 O A N σ μ := ⟨hF.nt hN, hFT.nt, hL.nt, hM2.nt (fun j z1 z2 => (ax_wr_ne (by omega)).trans (ax_wr_ne (by omega))) ((ax_wr_ne (by decide)).trans ax_wr_eq), hR2.kept (fun j z1 z2 => (ax_wr_ne (by omega)).trans (ax_wr_ne (by omega))), hSt2, hMk2.kept ((ax_wr_ne (by decide)).trans (ax_wr_ne (by decide)))⟩
  have e145 : (ax_wr (ax_wr h2 151 (eI 168 (ntU F (nT N) (nI a') (nI b2) (nI s') (nI l')))) 145 (eM 0 ta si pt fa co nm rd 0 1 (-1) (-1) bc2 bm2 gg)).2.2 145 = some (eM 0 ta si pt fa co nm rd 0 1 (-1) (-1) bc2 bm2 gg) := ax_wr_eq
  generalize ax_wr (ax_wr h2 151 (eI 168 (ntU F (nT N) (nI a') (nI b2) (nI s') (nI l')))) 145 (eM 0 ta si pt fa co nm rd 0 1 (-1) (-1) bc2 bm2 gg) = h3 at hb3 hB3 e145 ⊢
  have hTd : TdI (ntU F (nT N) (nI a') (nI b2) (nI s') (nI l')) (-1) (nT N + 1) (trA (trN N) (nT N) a' b2 s' l') := hFT.more.td
  have hT1 : ntU F (nT N) (nI a') (nI b2) (nI s') (nI l') 3 + 1 = nI (nT N + 1) := by rw [ntU_lo (by omega), f3, nI_1]
  generalize ntU F (nT N) (nI a') (nI b2) (nI s') (nI l') = F' at hB3 hTd hT1
  obtain ⟨hF3, hFT3, hL3, hM3, hR3, hSt3, hMk3⟩ := id hB3
  refine ax_aload_n dX12_newcomer_178 rfl ?_
  refine ax_cV dX12_newcomer_179 mmX12_aside lkX12_349 miX12_aside msX12_aside (ax_recv_of e145 rfl) rfl rfl (Nat.le_of_ble_eq_true rfl) (Nat.le_of_ble_eq_true rfl) rfl rfl (k_aside (d := d + 11) hN hM3 hR3 hSt3.1 hSt3.2.1 e145 (fun h4 S4 hb4 e4 hI4 hlo4 => ⟨_, rfl, ?_⟩))
  obtain ⟨hM4, hR4, hS4, hSc4, t1', t2'⟩ := id hI4
  have e145 := e4
  have e159 := hM4.2.2.2.1
  have hb4' : But h3 h4 psP := hb4.wide (fun j z => by unfold asP at z; unfold psP; omega)
  have loop : ∀ (m i : Nat) (bc bm : Int32) (S5 : Nat → Int32) (h5 : ax_H), i + m = n' → But h3 h5 psP → h5.2.2 145 = some (eM 0 ta si pt fa co nm rd 1 1 (-1) (-1) bc bm gg) → TrI h5 S2 S5 F' O A N (yN N 0 (trA (trN N) (nT N) a' b2 s' l') (nT N + 1) none σ i) → X G (d + 13) mX12_newcomer 196 [some (.ref 145), some (.int (nI a')), some (.int (nI b2)), some (.int (nI s')), some (.int (nI l')), some (.int (nI n')), some (.int w), some (.int (nI 1)), some (.int (nI (hA N σ (trN N) (nT N) n' none))), some (.int (nI (nT N))), some (.int (nI i)), none] [] h5 Q := by
    intro m
    induction m with
    | zero =>
      intro i bc bm S5 h5 hi hbb e145 hI5
      obtain rfl : i = n' := by omega
      have hBi := hB0.years (kp := 0) (sw := none) hN htr hb0' i
      have e159 := hI5.1.2.2.2.1
      refine ax_iload dX12_newcomer_196 rfl ?_
      refine ax_iload dX12_newcomer_198 rfl ?_
      refine ax_icmp_geT 213 dX12_newcomer_200 (by decide) (Int32.le_refl _) ?_
      refine ax_aload_n dX12_newcomer_213 rfl ?_
      refine ax_cV dX12_newcomer_214 mmX12_allHoles lkX12_359 miX12_allHoles msX12_allHoles (ax_recv_of e145 rfl) rfl rfl (Nat.le_of_ble_eq_true rfl) (Nat.le_of_ble_eq_true rfl) rfl rfl (k_allHoles (d := d + 11) hN (fun r hr => by have := hBi.1 r hr; omega) hF3 hI5.2.2.1 e145 hI5.1.1 e159 ⟨_, rfl, ?_⟩)
      refine ax_iload dX12_newcomer_217 rfl ?_
      refine ax_isub dX12_newcomer_219 ?_
      refine ax_istore dX12_newcomer_220 (Nat.le_of_ble_eq_true rfl) ?_
      refine ax_aload_n dX12_newcomer_222 rfl ?_
      refine ax_getf dX12_newcomer_223 flX12_99 e145 rfl ?_
      refine ax_bipush dX12_newcomer_226 (v := nI 117) (by decide) ?_
      refine ax_iload dX12_newcomer_228 rfl ?_
      refine ax_iadd dX12_newcomer_230 ?_
      rw [nI_add 117 (nT N)]
      refine ax_iald dX12_newcomer_231 e159 (ax_ix_nI (j := 117 + nT N) (by omega) (by decide)) ?_
      rw [hI5.2.2.2.1.2.1 (nT N) g7]
      refine ax_istore dX12_newcomer_232 (Nat.le_of_ble_eq_true rfl) ?_
      refine ax_aload_n dX12_newcomer_234 rfl ?_
      refine ax_cV dX12_newcomer_235 mmX12_back lkX12_352 miX12_back msX12_back (ax_recv_of e145 rfl) rfl rfl (Nat.le_of_ble_eq_true rfl) (Nat.le_of_ble_eq_true rfl) rfl rfl (k_back (d := d + 11) hI5 e145 (fun h6' S6 hb6 e6 hM6 hR6 hlo6 => ⟨_, rfl, ?_⟩))
      have hb7 : But h3 h6' psP := hbb.tr (hb6.wide (fun j z => by unfold asP at z; unfold psP; omega))
      have hq2 := hq h6' (hb3.tr (hb7.wide (fun j z => by unfold psP at z; unfold moP; omega))) ⟨si, pt, fa, co, nm, rd, _, _, gg, F', S6, O, A, e6, hB3.bk hN hb7 hM6 hR6 hlo6⟩
      unfold nwV nwS at hq2
      by_cases hw : w = 0
      · rw [if_pos hw] at hq2
        refine ax_iload dX12_newcomer_238 rfl ?_
        refine ax_if_neF 248 dX12_newcomer_240 (by decide +kernel) hw ?_
        refine ax_iload dX12_newcomer_243 rfl ?_
        refine ax_goto 250 dX12_newcomer_245 (by decide +kernel) ?_
        exact ax_ireturn dX12_newcomer_250 rfl hq2
      · rw [if_neg hw] at hq2
        refine ax_iload dX12_newcomer_238 rfl ?_
        refine ax_if_neT 248 dX12_newcomer_240 (by decide +kernel) hw ?_
        refine ax_iload dX12_newcomer_248 rfl ?_
        exact ax_ireturn dX12_newcomer_250 rfl hq2
    | succ m ih =>
      intro i bc bm S5 h5 hi hbb e145 hI5
      have hBi := hB0.years (kp := 0) (sw := none) hN htr hb0' i
      refine ax_iload dX12_newcomer_196 rfl ?_
      refine ax_iload dX12_newcomer_198 rfl ?_
      refine ax_icmp_geF 213 dX12_newcomer_200 (by decide) (nI_ge (by omega) (by omega)) ?_
      refine ax_aload_n dX12_newcomer_203 rfl ?_
      refine ax_cV dX12_newcomer_204 mmX12_passes lkX12_346 miX12_passes msX12_passes (ax_recv_of e145 rfl) rfl rfl (Nat.le_of_ble_eq_true rfl) (Nat.le_of_ble_eq_true rfl) rfl rfl (k_tpass (d := d + 1) (swo := none) htr hTd hT1 (Or.inr rfl) rfl (fun r hr => by cases hr) hN hBi hb1' (by omega) hF3 hL3 hI5 e145 (fun h6' S6 bc6 bm6 hb6 e6 hI6 => ⟨_, rfl, ?_⟩))
      refine ax_iinc dX12_newcomer_207 rfl (ax_inc 1) ?_
      refine ax_goto 196 dX12_newcomer_210 (by decide +kernel) ?_
      rw [nI_add i 1]
      exact ih (i + 1) bc6 bm6 S6 h6' (by omega) (hbb.tr hb6) e6 hI6
  refine ax_aload_n dX12_newcomer_182 rfl ?_
  refine ax_getf dX12_newcomer_183 flX12_99 e145 rfl ?_
  refine ax_bipush dX12_newcomer_186 (v := nI 117) (by decide) ?_
  refine ax_iload dX12_newcomer_188 rfl ?_
  refine ax_iadd dX12_newcomer_190 ?_
  rw [nI_add 117 (nT N)]
  refine ax_iconst dX12_newcomer_191 (v := nI 0) (by decide) ?_
  refine ax_iast dX12_newcomer_192 e159 (ax_ix_nI (j := 117 + nT N) (by omega) (by decide)) ?_
  refine ax_iconst dX12_newcomer_193 (v := nI 0) (by decide) ?_
  refine ax_istore dX12_newcomer_194 (Nat.le_of_ble_eq_true rfl) ?_
  have lo : ∀ j, upd S4 (117 + nT N) (nI 0) j = S4 j := fun j => by
    by_cases hj : j = 117 + nT N
    · rw [hj, pk_us, hSc4.2.1 (nT N) g7, h6]
    · rw [pk_un hj]
  have lo' : upd S4 (117 + nT N) (nI 0) = S4 := funext lo
  rw [lo', ax_wr_id e159]
  exact loop n' 0 bc2 bm2 S4 h4 (by omega) hb4' e4 hI4
end MB9
