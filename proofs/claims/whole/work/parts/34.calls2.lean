section CA2
variable {G : ax_G} {d : Nat} {h : ax_H} {Q : ax_O → ax_H → Prop} {N : Nt} {σ : Sd}
theorem lt6 {j : Nat} (h : j < 6) : j = 0 ∨ j = 1 ∨ j = 2 ∨ j = 3 ∨ j = 4 ∨ j = 5 := by omega
theorem lt7 {j : Nat} (h : j < 7) : j = 0 ∨ j = 1 ∨ j = 2 ∨ j = 3 ∨ j = 4 ∨ j = 5 ∨ j = 6 := by omega
theorem lt8 {j : Nat} (h : j < 8) : j = 0 ∨ j = 1 ∨ j = 2 ∨ j = 3 ∨ j = 4 ∨ j = 5 ∨ j = 6 ∨ j = 7 := by omega
theorem c_mean' {k kp ko r c : Nat} {o : Nat → Int32} {q : Nat → Nat} (hr : r < 10) (hO : sOK N σ) (hE : StIs h k kp N σ) (eko : h.2.2 ko = some (eI 5 o)) (ho : ∀ s, s < 5 → o s = nI (q s)) (hq9 : ∀ s, s < 5 → q s ≤ 9) (hq : Q (.inl (some (.int (nI (mn σ q r))))) h) : X G (d + 1) mX3_mean 0 (ax_in 9 [.ref k, .int (nI r), .ref ko]) [] h Q := by
  obtain ⟨ek, -, ⟨f2, e2, q2⟩, -⟩ := id hE
  refine c_mean (sf := fun s => σ 2 (5 * r + s)) (q := q) ek e2 eko hr (fun s hs => q2 _ (by omega)) (fun s hs => ?_) ho hq9 hq
  have h1 := hO.2.1 r hr
  have h2 := sm_mem (f := fun s => σ 2 (5 * r + s)) hs
  have h3 : σ 2 (5 * r + s) ≤ sm (fun s => σ 2 (5 * r + s)) 5 := h2
  show σ 2 (5 * r + s) < _
  omega
theorem c_road {x w : Int32} (hN : nOK N) (hO : sOK N σ) (hC : Cs h N σ) (hq : Q (.inl (some (.int (qRoad N σ x w)))) h) : X G (d + 2) mX11_road 0 (ax_in 3 [.ref 64, .int x, .int w]) [] h Q := by
  obtain ⟨⟨dr, e64⟩, ⟨⟨co, hl, e89, -⟩, ⟨f1, e92, q1⟩, ⟨f2, e93, q2⟩, ⟨f3, e94, q3⟩, ⟨f4, e95, q4⟩, ⟨f5, e96, q5⟩, -⟩, hE, -⟩ := id hC
  obtain ⟨e106, ⟨f6, e107, q6⟩, -⟩ := id hE
  have hR := hN.2.2.1
  have h9 := hN.2.2.2.2.1
  refine ax_aload_n dX11_road_0 rfl ?_
  refine ax_iload_n dX11_road_1 rfl ?_
  refine ax_cV dX11_road_2 mmX11_isRoad lkX11_132 miX11_isRoad msX11_isRoad (ax_recv_of e64 rfl) rfl rfl (Nat.le_of_ble_eq_true rfl) (Nat.le_of_ble_eq_true rfl) rfl rfl (c_isRoad e64 e89 ⟨_, rfl, ?_⟩)
  rcases ix_cases (n := nR N) (by omega) x with ⟨hs, hb, -⟩ | ⟨r, hr, rfl, hs, hb⟩
  · unfold qRoad at hq
    rw [hs] at hq
    rw [hb]
    refine ax_if_neF 10 dX11_road_5 (by decide) rfl ?_
    refine ax_iconst dX11_road_8 (v := -1) (by decide) ?_
    exact ax_ireturn dX11_road_9 rfl hq
  · unfold qRoad at hq
    rw [hs] at hq
    rw [hb]
    have hh := hO.1 r (by omega)
    refine ax_if_neT 10 dX11_road_5 (by decide) (by decide) ?_
    refine ax_iload_n dX11_road_10 rfl ?_
    rcases ix_cases (n := 7) (by omega) w with ⟨hw, -, ho⟩ | ⟨j, hj, rfl, hw, -⟩
    · rw [hw] at hq
      refine ax_tableOut 141 dX11_road_11 (out_of (n := 6) (by decide) ho (by decide)) (by decide) ?_
      refine ax_iconst dX11_road_141 (v := -1) (by decide) ?_
      exact ax_ireturn dX11_road_142 rfl hq
    · rw [hw] at hq
      rcases lt7 hj with rfl | rfl | rfl | rfl | rfl | rfl | rfl
      · refine ax_tableIn 52 dX11_road_11 (by decide) (by decide) rfl (by decide) ?_
        refine ax_aload_n dX11_road_52 rfl ?_
        refine ax_getf dX11_road_53 flX11_39 e64 rfl ?_
        refine ax_getf dX11_road_56 flX11_135 e89 rfl ?_
        refine ax_iload_n dX11_road_59 rfl ?_
        refine ax_iald dX11_road_60 e94 (ax_ix_nI (by omega) (by decide)) ?_
        rw [q3 r (by omega)]
        exact ax_ireturn dX11_road_61 rfl hq
      · refine ax_tableIn 62 dX11_road_11 (by decide) (by decide) rfl (by decide) ?_
        refine ax_aload_n dX11_road_62 rfl ?_
        refine ax_getf dX11_road_63 flX11_39 e64 rfl ?_
        refine ax_getf dX11_road_66 flX11_138 e89 rfl ?_
        refine ax_iload_n dX11_road_69 rfl ?_
        refine ax_iald dX11_road_70 e95 (ax_ix_nI (by omega) (by decide)) ?_
        rw [q4 r (by omega)]
        exact ax_ireturn dX11_road_71 rfl hq
      · refine ax_tableIn 72 dX11_road_11 (by decide) (by decide) rfl (by decide) ?_
        refine ax_aload_n dX11_road_72 rfl ?_
        refine ax_getf dX11_road_73 flX11_39 e64 rfl ?_
        refine ax_getf dX11_road_76 flX11_141 e89 rfl ?_
        refine ax_iload_n dX11_road_79 rfl ?_
        refine ax_iald dX11_road_80 e96 (ax_ix_nI (by omega) (by decide)) ?_
        rw [q5 r (by omega)]
        exact ax_ireturn dX11_road_81 rfl hq
      · refine ax_tableIn 82 dX11_road_11 (by decide) (by decide) rfl (by decide) ?_
        refine ax_aload_n dX11_road_82 rfl ?_
        refine ax_getf dX11_road_83 flX11_47 e64 rfl ?_
        refine ax_getf dX11_road_86 flX11_144 e106 rfl ?_
        refine ax_iload_n dX11_road_89 rfl ?_
        refine ax_iald dX11_road_90 e107 (ax_ix_nI (by omega) (by decide)) ?_
        rw [q6 r (by omega)]
        exact ax_ireturn dX11_road_91 rfl hq
      · refine ax_tableIn 92 dX11_road_11 (by decide) (by decide) rfl (by decide) ?_
        refine ax_aload_n dX11_road_92 rfl ?_
        refine ax_getf dX11_road_93 flX11_47 e64 rfl ?_
        refine ax_iload_n dX11_road_96 rfl ?_
        refine ax_aload_n dX11_road_97 rfl ?_
        refine ax_getf dX11_road_98 flX11_39 e64 rfl ?_
        refine ax_getf dX11_road_101 flX11_122 e89 rfl ?_
        refine ax_cV dX11_road_104 mmX3_mean lkX11_147 miX3_mean msX3_mean (ax_recv_of e106 rfl) rfl rfl (Nat.le_of_ble_eq_true rfl) (Nat.le_of_ble_eq_true rfl) rfl rfl (c_mean' (c := 0) (by omega) hO hE e92 q1 (fun s hs => (h9 s hs).1) ⟨_, rfl, ?_⟩)
        exact ax_ireturn dX11_road_107 rfl hq
      · refine ax_tableIn 108 dX11_road_11 (by decide) (by decide) rfl (by decide) ?_
        refine ax_aload_n dX11_road_108 rfl ?_
        refine ax_getf dX11_road_109 flX11_47 e64 rfl ?_
        refine ax_iload_n dX11_road_112 rfl ?_
        refine ax_aload_n dX11_road_113 rfl ?_
        refine ax_getf dX11_road_114 flX11_39 e64 rfl ?_
        refine ax_getf dX11_road_117 flX11_126 e89 rfl ?_
        refine ax_cV dX11_road_120 mmX3_mean lkX11_147 miX3_mean msX3_mean (ax_recv_of e106 rfl) rfl rfl (Nat.le_of_ble_eq_true rfl) (Nat.le_of_ble_eq_true rfl) rfl rfl (c_mean' (c := 0) (by omega) hO hE e93 q2 (fun s hs => (h9 s hs).2) ⟨_, rfl, ?_⟩)
        exact ax_ireturn dX11_road_123 rfl hq
      · refine ax_tableIn 124 dX11_road_11 (by decide) (by decide) rfl (by decide) ?_
        refine ax_aload_n dX11_road_124 rfl ?_
        refine ax_getf dX11_road_125 flX11_47 e64 rfl ?_
        refine ax_iload_n dX11_road_128 rfl ?_
        refine ax_cV dX11_road_129 mmX3_isWorn lkX11_151 miX3_isWorn msX3_isWorn (ax_recv_of e106 rfl) rfl rfl (Nat.le_of_ble_eq_true rfl) (Nat.le_of_ble_eq_true rfl) rfl rfl (c_stWorn e106 e107 (by omega) ⟨_, rfl, ?_⟩)
        rw [q6 r hr]
        by_cases hc : 1000 ≤ σ 1 r
        · rw [b1_t (nI_nlt hc (by omega))]
          have hq' : Q (.inl (some (.int (nI 1)))) h := by
            have e : (if 1000 ≤ σ 1 r then nI 1 else nI 0) = nI 1 := if_pos hc
            rw [← e]; exact hq
          refine ax_if_eqF 139 dX11_road_132 (by decide) (by decide) ?_
          refine ax_iconst dX11_road_135 (v := nI 1) (by decide) ?_
          refine ax_goto 140 dX11_road_136 (by decide) ?_
          exact ax_ireturn dX11_road_140 rfl hq'
        · rw [b1_f (fun q => q (nI_lt (by omega) (by omega)))]
          have hq' : Q (.inl (some (.int (nI 0)))) h := by
            have e : (if 1000 ≤ σ 1 r then nI 1 else nI 0) = nI 0 := if_neg hc
            rw [← e]; exact hq
          refine ax_if_eqT 139 dX11_road_132 (by decide) rfl ?_
          refine ax_iconst dX11_road_139 (v := nI 0) (by decide) ?_
          exact ax_ireturn dX11_road_140 rfl hq'
theorem c_surface {x y : Int32} (hN : nOK N) (hC : Cs h N σ) (hq : Q (.inl (some (.int (qSurface N σ x y)))) h) : X G (d + 1) mX11_surface 0 (ax_in 3 [.ref 64, .int x, .int y]) [] h Q := by
  obtain ⟨⟨dr, e64⟩, ⟨⟨co, hl, e89, -⟩, -⟩, ⟨e106, -, ⟨f2, e108, q2⟩, -⟩, -⟩ := id hC
  have hR := hN.2.2.1
  have hS5 := hN.1
  refine ax_aload_n dX11_surface_0 rfl ?_
  refine ax_iload_n dX11_surface_1 rfl ?_
  refine ax_cV dX11_surface_2 mmX11_isRoad lkX11_132 miX11_isRoad msX11_isRoad (ax_recv_of e64 rfl) rfl rfl (Nat.le_of_ble_eq_true rfl) (Nat.le_of_ble_eq_true rfl) rfl rfl (c_isRoad e64 e89 ⟨_, rfl, ?_⟩)
  unfold qSurface at hq
  rcases ix_cases (n := nR N) (by omega) x with ⟨hs, hb, -⟩ | ⟨r, hr, rfl, hs, hb⟩
  · rw [hs] at hq
    rw [hb]
    refine ax_if_eqT 32 dX11_surface_5 (by decide) rfl ?_
    refine ax_iconst dX11_surface_32 (v := -1) (by decide) ?_
    exact ax_ireturn dX11_surface_33 rfl hq
  · rw [hs] at hq
    rw [hb]
    refine ax_if_eqF 32 dX11_surface_5 (by decide) (by decide) ?_
    refine ax_aload_n dX11_surface_8 rfl ?_
    refine ax_iload_n dX11_surface_9 rfl ?_
    refine ax_cV dX11_surface_10 mmX11_isStuff lkX11_118 miX11_isStuff msX11_isStuff (ax_recv_of e64 rfl) rfl rfl (Nat.le_of_ble_eq_true rfl) (Nat.le_of_ble_eq_true rfl) rfl rfl (c_isStuff e64 e89 ⟨_, rfl, ?_⟩)
    rcases ix_cases (n := nS N) (by omega) y with ⟨hw, hb, -⟩ | ⟨s, hs', rfl, hw, hb⟩
    · rw [hw] at hq
      rw [hb]
      refine ax_if_eqT 32 dX11_surface_13 (by decide) rfl ?_
      refine ax_iconst dX11_surface_32 (v := -1) (by decide) ?_
      exact ax_ireturn dX11_surface_33 rfl hq
    · rw [hw] at hq
      rw [hb]
      refine ax_if_eqF 32 dX11_surface_13 (by decide) (by decide) ?_
      refine ax_aload_n dX11_surface_16 rfl ?_
      refine ax_getf dX11_surface_17 flX11_47 e64 rfl ?_
      refine ax_getf dX11_surface_20 flX11_154 e106 rfl ?_
      refine ax_iload_n dX11_surface_23 rfl ?_
      refine ax_iload_n dX11_surface_24 rfl ?_
      refine ax_cS dX11_surface_25 mmX11_cell lkX11_157 mtX11_cell rfl rfl (Nat.le_of_ble_eq_true rfl) (Nat.le_of_ble_eq_true rfl) rfl rfl (c_cellN ⟨_, rfl, ?_⟩)
      refine ax_iald dX11_surface_28 e108 (ax_ix_nI (by omega) (by decide)) ?_
      rw [q2 _ (by omega)]
      refine ax_goto 33 dX11_surface_29 (by decide) ?_
      exact ax_ireturn dX11_surface_33 rfl hq
theorem c_trade {x w : Int32} (hN : nOK N) (hC : Cs h N σ) (hq : Q (.inl (some (.int (qTrade N σ x w)))) h) : X G (d + 1) mX11_trade 0 (ax_in 3 [.ref 64, .int x, .int w]) [] h Q := by
  obtain ⟨⟨dr, e64⟩, ⟨⟨co, hl, e89, -⟩, -, -, -, -, -, e98, ⟨f6, e99, q6⟩, ⟨f7, e100, q7⟩, ⟨f8, e101, q8⟩, ⟨f9, e102, q9⟩, -⟩, ⟨e106, -, -, -, -, ⟨g5, e111, q5⟩, ⟨g6, e112, p6⟩, -⟩, -⟩ := id hC
  have hT6 := hN.2.2.2.1
  refine ax_aload_n dX11_trade_0 rfl ?_
  refine ax_iload_n dX11_trade_1 rfl ?_
  refine ax_cV dX11_trade_2 mmX11_isTrade lkX11_161 miX11_isTrade msX11_isTrade (ax_recv_of e64 rfl) rfl rfl (Nat.le_of_ble_eq_true rfl) (Nat.le_of_ble_eq_true rfl) rfl rfl (c_isTrade e64 e89 e98 ⟨_, rfl, ?_⟩)
  unfold qTrade at hq
  rcases ix_cases (n := nT N) (by omega) x with ⟨hs, hb, -⟩ | ⟨t, ht, rfl, hs, hb⟩
  · rw [hs] at hq
    rw [hb]
    refine ax_if_neF 10 dX11_trade_5 (by decide) rfl ?_
    refine ax_iconst dX11_trade_8 (v := -1) (by decide) ?_
    exact ax_ireturn dX11_trade_9 rfl hq
  · rw [hs] at hq
    rw [hb]
    refine ax_if_neT 10 dX11_trade_5 (by decide) (by decide) ?_
    refine ax_iload_n dX11_trade_10 rfl ?_
    rcases ix_cases (n := 6) (by omega) w with ⟨hw, -, ho⟩ | ⟨j, hj, rfl, hw, -⟩
    · rw [hw] at hq
      refine ax_tableOut 120 dX11_trade_11 (out_of (n := 5) (by decide) ho (by decide)) (by decide) ?_
      refine ax_iconst dX11_trade_120 (v := -1) (by decide) ?_
      exact ax_ireturn dX11_trade_121 rfl hq
    · rw [hw] at hq
      rcases lt6 hj with rfl | rfl | rfl | rfl | rfl | rfl
      · refine ax_tableIn 48 dX11_trade_11 (by decide) (by decide) rfl (by decide) ?_
        refine ax_aload_n dX11_trade_48 rfl ?_
        refine ax_getf dX11_trade_49 flX11_39 e64 rfl ?_
        refine ax_getf dX11_trade_52 flX11_164 e89 rfl ?_
        refine ax_getf dX11_trade_55 flX11_167 e98 rfl ?_
        refine ax_iload_n dX11_trade_58 rfl ?_
        refine ax_iald dX11_trade_59 e99 (ax_ix_nI (by omega) (by decide)) ?_
        rw [q6 t ht]
        exact ax_ireturn dX11_trade_60 rfl hq
      · refine ax_tableIn 61 dX11_trade_11 (by decide) (by decide) rfl (by decide) ?_
        refine ax_aload_n dX11_trade_61 rfl ?_
        refine ax_getf dX11_trade_62 flX11_39 e64 rfl ?_
        refine ax_getf dX11_trade_65 flX11_164 e89 rfl ?_
        refine ax_getf dX11_trade_68 flX11_170 e98 rfl ?_
        refine ax_iload_n dX11_trade_71 rfl ?_
        refine ax_iald dX11_trade_72 e100 (ax_ix_nI (by omega) (by decide)) ?_
        rw [q7 t ht]
        exact ax_ireturn dX11_trade_73 rfl hq
      · refine ax_tableIn 74 dX11_trade_11 (by decide) (by decide) rfl (by decide) ?_
        refine ax_aload_n dX11_trade_74 rfl ?_
        refine ax_getf dX11_trade_75 flX11_39 e64 rfl ?_
        refine ax_getf dX11_trade_78 flX11_164 e89 rfl ?_
        refine ax_getf dX11_trade_81 flX11_173 e98 rfl ?_
        refine ax_iload_n dX11_trade_84 rfl ?_
        refine ax_iald dX11_trade_85 e101 (ax_ix_nI (by omega) (by decide)) ?_
        rw [q8 t ht]
        exact ax_ireturn dX11_trade_86 rfl hq
      · refine ax_tableIn 87 dX11_trade_11 (by decide) (by decide) rfl (by decide) ?_
        refine ax_aload_n dX11_trade_87 rfl ?_
        refine ax_getf dX11_trade_88 flX11_39 e64 rfl ?_
        refine ax_getf dX11_trade_91 flX11_164 e89 rfl ?_
        refine ax_getf dX11_trade_94 flX11_176 e98 rfl ?_
        refine ax_iload_n dX11_trade_97 rfl ?_
        refine ax_iald dX11_trade_98 e102 (ax_ix_nI (by omega) (by decide)) ?_
        rw [q9 t ht]
        exact ax_ireturn dX11_trade_99 rfl hq
      · refine ax_tableIn 100 dX11_trade_11 (by decide) (by decide) rfl (by decide) ?_
        refine ax_aload_n dX11_trade_100 rfl ?_
        refine ax_getf dX11_trade_101 flX11_47 e64 rfl ?_
        refine ax_getf dX11_trade_104 flX11_179 e106 rfl ?_
        refine ax_iload_n dX11_trade_107 rfl ?_
        refine ax_iald dX11_trade_108 e111 (ax_ix_nI (by omega) (by decide)) ?_
        rw [q5 t (by omega)]
        exact ax_ireturn dX11_trade_109 rfl hq
      · refine ax_tableIn 110 dX11_trade_11 (by decide) (by decide) rfl (by decide) ?_
        refine ax_aload_n dX11_trade_110 rfl ?_
        refine ax_getf dX11_trade_111 flX11_47 e64 rfl ?_
        refine ax_getf dX11_trade_114 flX11_182 e106 rfl ?_
        refine ax_iload_n dX11_trade_117 rfl ?_
        refine ax_iald dX11_trade_118 e112 (ax_ix_nI (by omega) (by decide)) ?_
        rw [p6 t (by omega)]
        exact ax_ireturn dX11_trade_119 rfl hq
theorem c_shock {x y : Int32} (hN : nOK N) (hO : sOK N σ) (hC : Cs h N σ) (hq : ∀ h', But h h' trP → Cs h' N σ → Q (.inl (some (.int (qShock N σ x y)))) h') : X G (d + 3) mX11_shock 0 (ax_in 3 [.ref 64, .int x, .int y]) [] h Q := by
  obtain ⟨⟨dr, e64⟩, hL, hE, hA, hTr, hS⟩ := id hC
  obtain ⟨⟨co, hl, e89, -⟩, -⟩ := id hL
  obtain ⟨g1, g2, g3, g4, g5, g6, g7, hW, ⟨cm, g9⟩, g10, g11⟩ := id hS
  have hR := hN.2.2.1
  have hS5 := hN.1
  have e131 := g1
  refine ax_aload_n dX11_shock_0 rfl ?_
  refine ax_iload_n dX11_shock_1 rfl ?_
  refine ax_cV dX11_shock_2 mmX11_isRoad lkX11_132 miX11_isRoad msX11_isRoad (ax_recv_of e64 rfl) rfl rfl (Nat.le_of_ble_eq_true rfl) (Nat.le_of_ble_eq_true rfl) rfl rfl (c_isRoad e64 e89 ⟨_, rfl, ?_⟩)
  unfold qShock at hq
  rcases ix_cases (n := nR N) (by omega) x with ⟨hs, hb, -⟩ | ⟨r, hr, rfl, hs, hb⟩
  · rw [hs] at hq
    rw [hb]
    refine ax_if_eqT 16 dX11_shock_5 (by decide) rfl ?_
    refine ax_iconst dX11_shock_16 (v := -1) (by decide) ?_
    exact ax_ireturn dX11_shock_17 rfl (hq _ But.rf hC)
  · rw [hs] at hq
    rw [hb]
    refine ax_if_eqF 16 dX11_shock_5 (by decide) (by decide) ?_
    refine ax_aload_n dX11_shock_8 rfl ?_
    refine ax_iload_n dX11_shock_9 rfl ?_
    refine ax_cV dX11_shock_10 mmX11_isStuff lkX11_118 miX11_isStuff msX11_isStuff (ax_recv_of e64 rfl) rfl rfl (Nat.le_of_ble_eq_true rfl) (Nat.le_of_ble_eq_true rfl) rfl rfl (c_isStuff e64 e89 ⟨_, rfl, ?_⟩)
    rcases ix_cases (n := nS N) (by omega) y with ⟨hw, hb, -⟩ | ⟨s, hs', rfl, hw, hb⟩
    · rw [hw] at hq
      rw [hb]
      refine ax_if_neF 18 dX11_shock_13 (by decide) rfl ?_
      refine ax_iconst dX11_shock_16 (v := -1) (by decide) ?_
      exact ax_ireturn dX11_shock_17 rfl (hq _ But.rf hC)
    · rw [hw] at hq
      rw [hb]
      refine ax_if_neT 18 dX11_shock_13 (by decide) (by decide) ?_
      refine ax_aload_n dX11_shock_18 rfl ?_
      refine ax_getf dX11_shock_19 flX11_74 e64 rfl ?_
      refine ax_aload_n dX11_shock_22 rfl ?_
      refine ax_getf dX11_shock_23 flX11_47 e64 rfl ?_
      refine ax_cV dX11_shock_26 mmX4_look lkX11_206 miX4_look msX4_look (ax_recv_of e131 rfl) rfl rfl (Nat.le_of_ble_eq_true rfl) (Nat.le_of_ble_eq_true rfl) rfl rfl (c_look (d := d) (by omega) (by omega) hN hL hE hO g1 g2 g3 g4 g5 g6 g7 (fun h1 hs1 hS1 => ⟨_, rfl, ?_⟩))
      have kp1 : ∀ j, (j < 134 ∨ 137 < j) → h1.2.2 j = h.2.2 j := fun j z => hs1.2.2 j z
      have e64 := (kp1 64 (by omega)).trans e64
      have hL1 : Land h1 N := hL.kept (fun j z1 z2 => kp1 j (by omega))
      have e131 := hS1.1
      refine ax_aload_n dX11_shock_29 rfl ?_
      refine ax_getf dX11_shock_30 flX11_74 e64 rfl ?_
      refine ax_iload_n dX11_shock_33 rfl ?_
      refine ax_iload_n dX11_shock_34 rfl ?_
      refine ax_cV dX11_shock_35 mmX4_shockOf lkX11_210 miX4_shockOf msX4_shockOf (ax_recv_of e131 rfl) rfl rfl (Nat.le_of_ble_eq_true rfl) (Nat.le_of_ble_eq_true rfl) rfl rfl (c_shockOf (d := d) hr hs' hN hL1 hS1 (fun h2 hs2 hS2 => ⟨_, rfl, ?_⟩))
      have kp2 : ∀ j, (j < 132 ∨ 137 < j) → h2.2.2 j = h.2.2 j := fun j z => (hs2.2.2 j (by omega)).trans (kp1 j (by omega))
      have hb : But h h2 trP := (hs1.but (fun j z1 z2 => by unfold trP; omega)).tr (hs2.but (fun j z1 z2 => by unfold trP; omega))
      obtain ⟨y1, y2, y3, y4, y5, y6, y7⟩ := hS2.any
      have hScr : Scr h2 := ⟨y1, y2, y3, y4, y5, y6, y7, hW.kept (fun j z1 z2 => kp2 j (by omega)), ⟨cm, (kp2 142 (by omega)).trans g9⟩, g10.kept (kp2 143 (by omega)), g11.kept (kp2 144 (by omega))⟩
      exact ax_ireturn dX11_shock_38 rfl (hq _ hb (hC.after hb (hA.kept (fun j z1 z2 => kp2 j (by omega))) (hTr.kept (fun j z1 z2 => kp2 j (by omega))) hScr))
end CA2
