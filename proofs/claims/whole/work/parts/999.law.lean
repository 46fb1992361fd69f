/-! ===== the law ===== -/
section LAW
variable {G : ax_G} {d i : Nat} {h : ax_H} {Q : ax_O → ax_H → Prop} {o5 o6 : Option Value}
theorem LJ.up (a : LJ h i) : LJ h (i + 1) := by
  obtain ⟨N, σ, μ, tp, a1, a2, a3, a4, a5, a6, a7, a8, a9⟩ := a
  exact ⟨N, σ, μ, tp, a1, a2.mono (by omega), fun m τ z1 z2 => (a3 m τ z1 z2).mono (by omega), a4, a5, a6, a7, by omega, Nat.le_trans a9 (Nat.add_le_add_left (Nat.mul_le_mul_left _ (Nat.le_succ _)) _)⟩
theorem and31 (x : Int32) : ∃ k, k < 32 ∧ x &&& nI 31 = nI k := by
  have hb : (x &&& nI 31).toBitVec.toNat < 32 := by
    show (x.toBitVec &&& (nI 31).toBitVec).toNat < 32
    rw [BitVec.toNat_and]
    exact Nat.lt_of_le_of_lt Nat.and_le_right (by decide)
  refine ⟨(x &&& nI 31).toBitVec.toNat, hb, ?_⟩
  apply Int32.toBitVec_inj.mp
  apply BitVec.eq_of_toNat_eq
  have : ∀ k : Nat, k < 32 → (nI k).toBitVec.toNat = k := by decide
  rw [this _ hb]
theorem sw_out : ∀ k : Nat, k < 32 → 22 ≤ k → (nI k).toInt < 0 ∨ 21 < (nI k).toInt := by decide
theorem sub7 : ∀ g : Nat, g < 7 → nI g - nI 7 < 0 := by decide
theorem gt_out {g i : Nat} (h1 : g < 7 * i + 7) (h2 : g ≤ 3584 ∧ 7 * i ≤ 3584) : nI g - nI 7 < nI (7 * i) := by
  by_cases h7 : g < 7
  · exact Int32.lt_of_lt_of_le (sub7 g h7) (Int32.not_lt.mp (nI_nlt (b := 0) (Nat.zero_le _) (by omega)))
  · rw [pk_sub (by omega)]
    exact nI_lt (by omega) (by omega)
theorem law_loop (hT : Thr G) (hg : gn G ≤ 3584) (hq : ∀ h, h.1 ≤ 168 + 10 * 512 → h.2.1 ≤ 60000 + 2300 * 512 → Q (.inl (some (.int 1))) h) : ∀ (m i : Nat) (h : ax_H) (o5 o6 : Option Value), gn G ≤ 7 * (i + m) → 7 * i ≤ gn G → LJ h i → X G (d + 60) mL_law 23 [some (.ref 32), some (.ref 64), some (.ref 145), some (.ref 167), some (.int (nI (7 * i))), o5, o6] [] h Q := by
  have out : ∀ (i : Nat) (h : ax_H) (o5 o6 : Option Value), 7 * i ≤ gn G → LJ h i → X G (d + 60) mL_law 1233 [some (.ref 32), some (.ref 64), some (.ref 145), some (.ref 167), some (.int (nI (7 * i))), o5, o6] [] h Q := by
    intro i h o5 o6 hi hJ
    obtain ⟨N, σ, μ, tp, -, -, -, -, -, -, -, a8, a9⟩ := hJ
    refine ax_iconst dL_law_1233 (v := nI 1) (by decide) ?_
    refine ax_zreturn dL_law_1234 rfl (Or.inr rfl) (hq h (by omega) (Nat.le_trans a9 (Nat.add_le_add_left (Nat.mul_le_mul_left _ (by omega)) _)))
  intro m
  induction m with
  | zero =>
    intro i h o5 o6 hm hi hJ
    refine ax_iload dL_law_23 rfl ?_
    refine ax_aload_n dL_law_25 rfl ?_
    refine ax_sclen dL_law_26 ?_
    refine ax_bipush dL_law_27 (v := nI 7) (by decide) ?_
    refine ax_isub dL_law_29 ?_
    refine ax_icmp_gtT 1233 dL_law_30 (by decide) (gt_out (by omega) (by omega)) ?_
    exact out i h o5 o6 hi hJ
  | succ m ih =>
    intro i h o5 o6 hm hi hJ
    by_cases hn : 7 * i + 7 ≤ gn G
    · have cont : ∀ h2 o5 o6, LJ h2 (i + 1) → X G (d + 60) mL_law 1227 [some (.ref 32), some (.ref 64), some (.ref 145), some (.ref 167), some (.int (nI (7 * i))), o5, o6] [] h2 Q := by
        intro h2 o5 o6 hJ2
        refine ax_iinc dL_law_1227 rfl (ax_inc 7) ?_
        refine ax_goto 23 dL_law_1230 (by decide +kernel) ?_
        rw [nI_add (7 * i) 7]
        exact ih (i + 1) h2 o5 o6 (by omega) (by omega) hJ2
      obtain ⟨k, hk, ek⟩ := and31 (gx G (7 * i))
      refine ax_iload dL_law_23 rfl ?_
      refine ax_aload_n dL_law_25 rfl ?_
      refine ax_sclen dL_law_26 ?_
      refine ax_bipush dL_law_27 (v := nI 7) (by decide) ?_
      refine ax_isub dL_law_29 ?_
      rw [pk_sub (by omega)]
      refine ax_icmp_gtF 1233 dL_law_30 (by decide) (nI_nlt (by omega) (by omega)) ?_
      refine ax_aload_n dL_law_33 rfl ?_
      refine ax_iload dL_law_34 rfl ?_
      refine ax_scO dL_law_36 (ax_ix_nI (j := 7 * i) (by omega) (by omega)) ?_
      refine ax_bipush dL_law_37 (v := nI 31) (by decide) ?_
      refine ax_iand dL_law_39 ?_
      rw [ek]
      have ks : k = 0 ∨ k = 1 ∨ k = 2 ∨ k = 3 ∨ k = 4 ∨ k = 5 ∨ k = 6 ∨ k = 7 ∨ k = 8 ∨ k = 9 ∨ k = 10 ∨ k = 11 ∨ k = 12 ∨ k = 13 ∨ k = 14 ∨ k = 15 ∨ k = 16 ∨ k = 17 ∨ k = 18 ∨ k = 19 ∨ k = 20 ∨ k = 21 ∨ 22 ≤ k := by omega
      rcases ks with q | q | q | q | q | q | q | q | q | q | q | q | q | q | q | q | q | q | q | q | q | q | q
      · subst q
        refine ax_tableIn 144 dL_law_40 (by decide) (by decide) rfl (by decide) ?_
        exact law_feed hn hg hJ cont
      · subst q
        refine ax_tableIn 291 dL_law_40 (by decide) (by decide) rfl (by decide) ?_
        exact law_net hn hg hJ cont
      · subst q
        refine ax_tableIn 304 dL_law_40 (by decide) (by decide) rfl (by decide) ?_
        exact law_stuff hn hg hJ cont
      · subst q
        refine ax_tableIn 341 dL_law_40 (by decide) (by decide) rfl (by decide) ?_
        exact law_road hn hg hJ cont
      · subst q
        refine ax_tableIn 378 dL_law_40 (by decide) (by decide) rfl (by decide) ?_
        exact law_surface hn hg hJ cont
      · subst q
        refine ax_tableIn 415 dL_law_40 (by decide) (by decide) rfl (by decide) ?_
        exact law_trade hn hg hJ cont
      · subst q
        refine ax_tableIn 452 dL_law_40 (by decide) (by decide) rfl (by decide) ?_
        exact law_way hn hg hJ cont
      · subst q
        refine ax_tableIn 489 dL_law_40 (by decide) (by decide) rfl (by decide) ?_
        exact law_cost hT hn hg hJ cont
      · subst q
        refine ax_tableIn 545 dL_law_40 (by decide) (by decide) rfl (by decide) ?_
        exact law_shock hn hg hJ cont
      · subst q
        refine ax_tableIn 582 dL_law_40 (by decide) (by decide) rfl (by decide) ?_
        exact law_years hn hg hJ cont
      · subst q
        refine ax_tableIn 607 dL_law_40 (by decide) (by decide) rfl (by decide) ?_
        exact law_lose hn hg hJ cont
      · subst q
        refine ax_tableIn 656 dL_law_40 (by decide) (by decide) rfl (by decide) ?_
        exact law_layer hn hg hJ cont
      · subst q
        refine ax_tableIn 705 dL_law_40 (by decide) (by decide) rfl (by decide) ?_
        exact law_starves hn hg hJ cont
      · subst q
        refine ax_tableIn 742 dL_law_40 (by decide) (by decide) rfl (by decide) ?_
        exact law_purpose hn hg hJ cont
      · subst q
        refine ax_tableIn 791 dL_law_40 (by decide) (by decide) rfl (by decide) ?_
        exact law_table hn hg hJ cont
      · subst q
        refine ax_tableIn 828 dL_law_40 (by decide) (by decide) rfl (by decide) ?_
        exact law_newcomer hT hn hg hJ cont
      · subst q
        refine ax_tableIn 946 dL_law_40 (by decide) (by decide) rfl (by decide) ?_
        exact law_swept hT hn hg hJ cont
      · subst q
        refine ax_tableIn 1014 dL_law_40 (by decide) (by decide) rfl (by decide) ?_
        exact law_told hn hg hJ cont
      · subst q
        refine ax_tableIn 1051 dL_law_40 (by decide) (by decide) rfl (by decide) ?_
        exact law_went hn hg hJ cont
      · subst q
        refine ax_tableIn 1088 dL_law_40 (by decide) (by decide) rfl (by decide) ?_
        exact law_wars hn hg hJ cont
      · subst q
        refine ax_tableIn 1149 dL_law_40 (by decide) (by decide) rfl (by decide) ?_
        exact law_mark hn hg hJ cont
      · subst q
        refine ax_tableIn 1202 dL_law_40 (by decide) (by decide) rfl (by decide) ?_
        exact law_count hn hg hJ cont
      · refine ax_tableOut 1227 dL_law_40 (sw_out k hk q) (by decide) ?_
        exact cont h o5 o6 hJ.up
    · refine ax_iload dL_law_23 rfl ?_
      refine ax_aload_n dL_law_25 rfl ?_
      refine ax_sclen dL_law_26 ?_
      refine ax_bipush dL_law_27 (v := nI 7) (by decide) ?_
      refine ax_isub dL_law_29 ?_
      refine ax_icmp_gtT 1233 dL_law_30 (by decide) (gt_out (by omega) (by omega)) ?_
      exact out i h o5 o6 hi hJ
theorem law_start {s : Nat} (hs : s = 0) (hT : Thr G) (hg : gn G ≤ 3584) (hq : ∀ h, h.1 ≤ 168 + 10 * 512 → h.2.1 ≤ 60000 + 2300 * 512 → Q (.inl (some (.int 1))) h) : X G (d + 60) mL_law 0 (ax_in 7 [.ref 32]) [] (64, s, fun _ => none) Q := by
  refine ax_newo dL_law_0 nwL_8 (fun _ => rfl) ?_
  refine ax_dup dL_law_3 rfl ?_
  rw [HL_one]
  refine ax_cI dL_law_4 mmX11_init lkL_23 miX11_init rfl rfl rfl rfl (Nat.le_of_ble_eq_true rfl) (Nat.le_of_ble_eq_true rfl) rfl rfl (i_C (d := d + 56) (s := s) (g := fun _ => none) (fun h1 a1 a2 a3 a4 a5 a6 a7 => ⟨_, rfl, ?_⟩))
  obtain ⟨n1, s1, g1⟩ := h1
  dsimp only at a1 a2
  subst a1
  refine ax_astore_n dL_law_7 (Nat.le_of_ble_eq_true rfl) ?_
  refine ax_newo dL_law_8 nwL_24 (fun _ => rfl) ?_
  refine ax_dup dL_law_11 rfl ?_
  rw [HL_one]
  refine ax_cI dL_law_12 mmX12_init lkL_26 miX12_init rfl rfl rfl rfl (Nat.le_of_ble_eq_true rfl) (Nat.le_of_ble_eq_true rfl) rfl rfl (i_M (d := d + 58) (s := s1) (g := g1) (fun h2 b1 b2 b3 b4 b5 b6 => ⟨_, rfl, ?_⟩))
  obtain ⟨n2, s2, g2⟩ := h2
  dsimp only at b1 b2
  subst b1
  refine ax_astore_n dL_law_15 (Nat.le_of_ble_eq_true rfl) ?_
  refine ax_iconst dL_law_16 (v := nI 1) (by decide) ?_
  refine ax_newa dL_law_17 (a0 := (1, .inr (.inl (fun _ => 0)))) rfl (by decide) ac_long (fun _ _ q => q) (by decide) (N := 1) (by decide) (by decide) (fun _ _ => rfl) ?_
  refine ax_astore_n dL_law_19 (Nat.le_of_ble_eq_true rfl) ?_
  refine ax_iconst dL_law_20 (v := nI 0) (by decide) ?_
  refine ax_istore dL_law_21 (Nat.le_of_ble_eq_true rfl) ?_
  refine law_loop hT hg hq 512 0 _ none none (by omega) (by omega) ?_
  have kk : ∀ j, j ≠ 167 → (ax_al ((167, s2, g2) : ax_H) 1 (.inl (.long, (1, .inr (.inl (fun _ => 0)))))).2.2 j = g2 j := fun j z => ax_al_ne z
  have kc : ∀ j, j < 145 → (ax_al ((167, s2, g2) : ax_H) 1 (.inl (.long, (1, .inr (.inl (fun _ => 0)))))).2.2 j = g1 j := fun j z => (kk j (by omega)).trans (b6 j z)
  refine ⟨N0, z0, fun _ => none, [], N0_ok, z0_ok, fun m τ _ y => (by cases y), ⟨a3.kept' (fun j z1 z2 => kc j (by omega)), ⟨fun _ => none, fun _ => 0, (kc 129 (by omega)).trans a4, (kc 130 (by omega)).trans a5, Nat.le_refl _, fun _ _ => rfl, fun m k _ y => (by cases y), fun m τ _ y => (by cases y), fun m m' k k' _ _ _ y => (by cases y)⟩, a6.kept (fun j z1 z2 z3 => kc j (by omega))⟩, ⟨⟨0, b3.kept (fun j z1 z2 => kk j (by omega))⟩, b4.kept (kk 146 (by omega)), b5.kept (fun j z1 z2 z3 => kk j (by omega))⟩, ⟨_, ax_al_eq⟩, Nat.le_refl _, Nat.le_refl _, ?_⟩
  show s2 + 1 ≤ 60000 + 2300 * 0
  omega
end LAW
