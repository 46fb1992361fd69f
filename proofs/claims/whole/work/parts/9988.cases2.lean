/-! ===== the law's cases ===== -/
section CAT
variable {G : ax_G} {d i : Nat} {h : ax_H} {Q : ax_O → ax_H → Prop} {o5 o6 : Option Value}
theorem law_lose (hn : 7 * i + 7 ≤ gn G) (hg : gn G ≤ 3584) (hJ : LJ h i) (hq : ∀ h2 o5 o6, LJ h2 (i + 1) → X G (d + 60) mL_law 1227 [some (.ref 32), some (.ref 64), some (.ref 145), some (.ref 167), some (.int (nI (7 * i))), o5, o6] [] h2 Q) : X G (d + 60) mL_law 607 [some (.ref 32), some (.ref 64), some (.ref 145), some (.ref 167), some (.int (nI (7 * i))), o5, o6] [] h Q := by
  obtain ⟨N, σ, μ, tp, hN, hSI, hMI, hCP, ⟨⟨th, hI⟩, hTp, hPs⟩, ⟨f7, e167⟩, s1, s2, s3⟩ := hJ
  have hi : i ≤ 511 := by omega
  have hC := hCP.1
  obtain ⟨hB, h3, h7, h6⟩ := id hSI
  have hO : sOK N σ := hB.ok (by omega) (by omega)
  have hy0 : σ 0 0 < 2 ^ 30 := by have := hB.2.2.2.2; omega
  have e65 := hCP.2.2.1.1
  obtain ⟨⟨dr, e64⟩, -⟩ := id hC
  obtain ⟨si, pt, fa, co, nm, rd, bc, bm, gg, F, S, O, A, e145, -⟩ := id hI
  have hMI' : ∀ m τ, m < 4 → μ m = some τ → SI N τ (50 * i + 50) := fun m τ z1 z2 => (hMI m τ z1 z2).mono (by omega)
  refine ax_aload_n dL_law_607 rfl ?_
  refine ax_aload_n dL_law_608 rfl ?_
  refine ax_iload dL_law_609 rfl ?_
  refine ax_iconst dL_law_611 (v := nI 1) (by decide) ?_
  refine ax_iadd dL_law_612 ?_
  refine ax_scO dL_law_613 (sc_ix (k := 1) (by omega) hg) ?_
  refine ax_aload_n dL_law_614 rfl ?_
  refine ax_iload dL_law_615 rfl ?_
  refine ax_iconst dL_law_617 (v := nI 2) (by decide) ?_
  refine ax_iadd dL_law_618 ?_
  refine ax_scO dL_law_619 (sc_ix (k := 2) (by omega) hg) ?_
  refine ax_aload_n dL_law_620 rfl ?_
  refine ax_iload dL_law_621 rfl ?_
  refine ax_iconst dL_law_623 (v := nI 3) (by decide) ?_
  refine ax_iadd dL_law_624 ?_
  refine ax_scO dL_law_625 (sc_ix (k := 3) (by omega) hg) ?_
  refine ax_cV dL_law_626 mmX11_lose lkL_76 miX11_lose msX11_lose (ax_recv_of e64 rfl) rfl rfl (Nat.le_of_ble_eq_true rfl) (Nat.le_of_ble_eq_true rfl) rfl rfl (c_lose (d := d + 58) hN hC (fun h1 hb1 hC1 => ⟨_, rfl, ?_⟩))
  have w1 : ∀ j, j = 109 → wrK j := fun j z => by unfold wrK; omega
  have hCP1 := hCP.tr hb1.gw w1 hC1
  obtain ⟨⟨th1, hI⟩, hTp, hPs⟩ := MP.tr ⟨⟨th, hI⟩, hTp, hPs⟩ hb1.gw w1
  obtain ⟨si, pt, fa, co, nm, rd, bc, bm, gg, F, S, O, A, e145, -⟩ := id hI
  have e167' := (hb1.2.2 167 (by omega)).trans e167
  have t1 : 168 ≤ h1.1 := by rw [hb1.1]; exact s1
  have t2 : h1.1 ≤ 168 + 10 * i + 10 := by rw [hb1.1]; omega
  have t3 : h1.2.1 ≤ 60000 + 2300 * i + 2300 := by rw [hb1.2.1]; exact Nat.le_trans s3 (Nat.le_add_right _ _)
  obtain ⟨so, hs⟩ : ∃ so, sLose N σ (gx G (7 * i + 1)) (gx G (7 * i + 2)) (gx G (7 * i + 3)) = so := ⟨_, rfl⟩
  rw [hs] at hCP1 ⊢
  cases so with
  | none =>
    refine ax_aload_n dL_law_629 rfl ?_
    refine ax_aload_n dL_law_630 rfl ?_
    refine ax_iload dL_law_631 rfl ?_
    refine ax_iconst dL_law_633 (v := nI 1) (by decide) ?_
    refine ax_iadd dL_law_634 ?_
    refine ax_scO dL_law_635 (sc_ix (k := 1) (by omega) hg) ?_
    refine ax_aload_n dL_law_636 rfl ?_
    refine ax_iload dL_law_637 rfl ?_
    refine ax_iconst dL_law_639 (v := nI 2) (by decide) ?_
    refine ax_iadd dL_law_640 ?_
    refine ax_scO dL_law_641 (sc_ix (k := 2) (by omega) hg) ?_
    refine ax_aload_n dL_law_642 rfl ?_
    refine ax_iload dL_law_643 rfl ?_
    refine ax_iconst dL_law_645 (v := nI 3) (by decide) ?_
    refine ax_iadd dL_law_646 ?_
    refine ax_scO dL_law_647 (sc_ix (k := 3) (by omega) hg) ?_
    refine ax_cV dL_law_648 mmX12_lose lkL_80 miX12_lose msX12_lose (ax_recv_of e145 rfl) rfl rfl (Nat.le_of_ble_eq_true rfl) (Nat.le_of_ble_eq_true rfl) rfl rfl (k_lose (d := d + 57) hN hI (fun _ h2 hb2 hI2 => ⟨_, rfl, ?_⟩) (fun σ' z => by rw [hs] at z; cases z))
    refine ax_icmp_eqT 1227 dL_law_651 (by decide +kernel) (b1_f (fun z => by cases z)) ?_
    exact hq h2 o5 o6 (LJ.mk hN (hSI.mono (by omega)) hMI' hCP1 hb2 moP_r hI2 (hTp.mo hb2) (hPs.mo hb2) ⟨f7, e167'⟩ t1 t2 t3)
  | some σ' =>
    refine ax_aload_n dL_law_629 rfl ?_
    refine ax_aload_n dL_law_630 rfl ?_
    refine ax_iload dL_law_631 rfl ?_
    refine ax_iconst dL_law_633 (v := nI 1) (by decide) ?_
    refine ax_iadd dL_law_634 ?_
    refine ax_scO dL_law_635 (sc_ix (k := 1) (by omega) hg) ?_
    refine ax_aload_n dL_law_636 rfl ?_
    refine ax_iload dL_law_637 rfl ?_
    refine ax_iconst dL_law_639 (v := nI 2) (by decide) ?_
    refine ax_iadd dL_law_640 ?_
    refine ax_scO dL_law_641 (sc_ix (k := 2) (by omega) hg) ?_
    refine ax_aload_n dL_law_642 rfl ?_
    refine ax_iload dL_law_643 rfl ?_
    refine ax_iconst dL_law_645 (v := nI 3) (by decide) ?_
    refine ax_iadd dL_law_646 ?_
    refine ax_scO dL_law_647 (sc_ix (k := 3) (by omega) hg) ?_
    refine ax_cV dL_law_648 mmX12_lose lkL_80 miX12_lose msX12_lose (ax_recv_of e145 rfl) rfl rfl (Nat.le_of_ble_eq_true rfl) (Nat.le_of_ble_eq_true rfl) rfl rfl (k_lose (d := d + 57) hN hI (fun z => by rw [hs] at z; cases z) (fun σ'' z h2 hb2 hI2 => ⟨_, rfl, ?_⟩))
    cases Option.some.inj (hs.symm.trans z)
    refine ax_icmp_eqT 1227 dL_law_651 (by decide +kernel) (b1_t rfl) ?_
    exact hq h2 o5 o6 (LJ.mk hN ((hSI.lose hs).mono (by omega)) hMI' hCP1 hb2 moP_r hI2 (hTp.mo hb2) (hPs.mo hb2) ⟨f7, e167'⟩ t1 t2 t3)
theorem law_told (hn : 7 * i + 7 ≤ gn G) (hg : gn G ≤ 3584) (hJ : LJ h i) (hq : ∀ h2 o5 o6, LJ h2 (i + 1) → X G (d + 60) mL_law 1227 [some (.ref 32), some (.ref 64), some (.ref 145), some (.ref 167), some (.int (nI (7 * i))), o5, o6] [] h2 Q) : X G (d + 60) mL_law 1014 [some (.ref 32), some (.ref 64), some (.ref 145), some (.ref 167), some (.int (nI (7 * i))), o5, o6] [] h Q := by
  obtain ⟨N, σ, μ, tp, hN, hSI, hMI, hCP, ⟨⟨th, hI⟩, hTp, hPs⟩, ⟨f7, e167⟩, s1, s2, s3⟩ := hJ
  have hi : i ≤ 511 := by omega
  have hC := hCP.1
  obtain ⟨hB, h3, h7, h6⟩ := id hSI
  have hO : sOK N σ := hB.ok (by omega) (by omega)
  have hy0 : σ 0 0 < 2 ^ 30 := by have := hB.2.2.2.2; omega
  have e65 := hCP.2.2.1.1
  obtain ⟨⟨dr, e64⟩, -⟩ := id hC
  obtain ⟨si, pt, fa, co, nm, rd, bc, bm, gg, F, S, O, A, e145, -⟩ := id hI
  have hMI' : ∀ m τ, m < 4 → μ m = some τ → SI N τ (50 * i + 50) := fun m τ z1 z2 => (hMI m τ z1 z2).mono (by omega)
  refine ax_aload_n dL_law_1014 rfl ?_
  refine ax_aload_n dL_law_1015 rfl ?_
  refine ax_iload dL_law_1016 rfl ?_
  refine ax_iconst dL_law_1018 (v := nI 1) (by decide) ?_
  refine ax_iadd dL_law_1019 ?_
  refine ax_scO dL_law_1020 (sc_ix (k := 1) (by omega) hg) ?_
  refine ax_aload_n dL_law_1021 rfl ?_
  refine ax_iload dL_law_1022 rfl ?_
  refine ax_iconst dL_law_1024 (v := nI 2) (by decide) ?_
  refine ax_iadd dL_law_1025 ?_
  refine ax_scO dL_law_1026 (sc_ix (k := 2) (by omega) hg) ?_
  refine ax_cV dL_law_1027 mmX11_told lkL_106 miX11_told msX11_told (ax_recv_of e64 rfl) rfl rfl (Nat.le_of_ble_eq_true rfl) (Nat.le_of_ble_eq_true rfl) rfl rfl (c_told (d := d + 58) hN hC (fun h1 hb1 hC1 => ⟨_, rfl, ?_⟩))
  have w1 : ∀ j, j = 113 → wrK j := fun j z => by unfold wrK; omega
  have hCP1 := hCP.tr hb1.gw w1 hC1
  obtain ⟨⟨th1, hI⟩, hTp, hPs⟩ := MP.tr ⟨⟨th, hI⟩, hTp, hPs⟩ hb1.gw w1
  obtain ⟨si, pt, fa, co, nm, rd, bc, bm, gg, F, S, O, A, e145, -⟩ := id hI
  have e167' := (hb1.2.2 167 (by omega)).trans e167
  have t1 : 168 ≤ h1.1 := by rw [hb1.1]; exact s1
  have t2 : h1.1 ≤ 168 + 10 * i + 10 := by rw [hb1.1]; omega
  have t3 : h1.2.1 ≤ 60000 + 2300 * i + 2300 := by rw [hb1.2.1]; exact Nat.le_trans s3 (Nat.le_add_right _ _)
  obtain ⟨so, hs⟩ : ∃ so, sTold N σ (gx G (7 * i + 1)) (gx G (7 * i + 2)) = so := ⟨_, rfl⟩
  rw [hs] at hCP1 ⊢
  cases so with
  | none =>
    refine ax_aload_n dL_law_1030 rfl ?_
    refine ax_aload_n dL_law_1031 rfl ?_
    refine ax_iload dL_law_1032 rfl ?_
    refine ax_iconst dL_law_1034 (v := nI 1) (by decide) ?_
    refine ax_iadd dL_law_1035 ?_
    refine ax_scO dL_law_1036 (sc_ix (k := 1) (by omega) hg) ?_
    refine ax_aload_n dL_law_1037 rfl ?_
    refine ax_iload dL_law_1038 rfl ?_
    refine ax_iconst dL_law_1040 (v := nI 2) (by decide) ?_
    refine ax_iadd dL_law_1041 ?_
    refine ax_scO dL_law_1042 (sc_ix (k := 2) (by omega) hg) ?_
    refine ax_cV dL_law_1043 mmX12_told lkL_110 miX12_told msX12_told (ax_recv_of e145 rfl) rfl rfl (Nat.le_of_ble_eq_true rfl) (Nat.le_of_ble_eq_true rfl) rfl rfl (k_told (d := d + 57) hN hI (fun _ h2 hb2 hI2 => ⟨_, rfl, ?_⟩) (fun σ' z => by rw [hs] at z; cases z))
    refine ax_icmp_eqT 1227 dL_law_1046 (by decide +kernel) (b1_f (fun z => by cases z)) ?_
    exact hq h2 o5 o6 (LJ.mk hN (hSI.mono (by omega)) hMI' hCP1 hb2 moP_r hI2 (hTp.mo hb2) (hPs.mo hb2) ⟨f7, e167'⟩ t1 t2 t3)
  | some σ' =>
    refine ax_aload_n dL_law_1030 rfl ?_
    refine ax_aload_n dL_law_1031 rfl ?_
    refine ax_iload dL_law_1032 rfl ?_
    refine ax_iconst dL_law_1034 (v := nI 1) (by decide) ?_
    refine ax_iadd dL_law_1035 ?_
    refine ax_scO dL_law_1036 (sc_ix (k := 1) (by omega) hg) ?_
    refine ax_aload_n dL_law_1037 rfl ?_
    refine ax_iload dL_law_1038 rfl ?_
    refine ax_iconst dL_law_1040 (v := nI 2) (by decide) ?_
    refine ax_iadd dL_law_1041 ?_
    refine ax_scO dL_law_1042 (sc_ix (k := 2) (by omega) hg) ?_
    refine ax_cV dL_law_1043 mmX12_told lkL_110 miX12_told msX12_told (ax_recv_of e145 rfl) rfl rfl (Nat.le_of_ble_eq_true rfl) (Nat.le_of_ble_eq_true rfl) rfl rfl (k_told (d := d + 57) hN hI (fun z => by rw [hs] at z; cases z) (fun σ'' z h2 hb2 hI2 => ⟨_, rfl, ?_⟩))
    cases Option.some.inj (hs.symm.trans z)
    refine ax_icmp_eqT 1227 dL_law_1046 (by decide +kernel) (b1_t rfl) ?_
    exact hq h2 o5 o6 (LJ.mk hN ((hSI.told hs).mono (by omega)) hMI' hCP1 hb2 moP_r hI2 (hTp.mo hb2) (hPs.mo hb2) ⟨f7, e167'⟩ t1 t2 t3)
theorem law_feed (hn : 7 * i + 7 ≤ gn G) (hg : gn G ≤ 3584) (hJ : LJ h i) (hq : ∀ h2 o5 o6, LJ h2 (i + 1) → X G (d + 60) mL_law 1227 [some (.ref 32), some (.ref 64), some (.ref 145), some (.ref 167), some (.int (nI (7 * i))), o5, o6] [] h2 Q) : X G (d + 60) mL_law 144 [some (.ref 32), some (.ref 64), some (.ref 145), some (.ref 167), some (.int (nI (7 * i))), o5, o6] [] h Q := by
  obtain ⟨N, σ, μ, tp, hN, hSI, hMI, hCP, ⟨⟨th, hI⟩, hTp, hPs⟩, ⟨f7, e167⟩, s1, s2, s3⟩ := hJ
  have hi : i ≤ 511 := by omega
  have hC := hCP.1
  obtain ⟨hB, h3, h7, h6⟩ := id hSI
  have hO : sOK N σ := hB.ok (by omega) (by omega)
  have hy0 : σ 0 0 < 2 ^ 30 := by have := hB.2.2.2.2; omega
  have e65 := hCP.2.2.1.1
  obtain ⟨⟨dr, e64⟩, -⟩ := id hC
  obtain ⟨si, pt, fa, co, nm, rd, bc, bm, gg, F, S, O, A, e145, -⟩ := id hI
  have hMI' : ∀ m τ, m < 4 → μ m = some τ → SI N τ (50 * i + 50) := fun m τ z1 z2 => (hMI m τ z1 z2).mono (by omega)
  refine ax_aload_n dL_law_144 rfl ?_
  refine ax_aload_n dL_law_145 rfl ?_
  refine ax_iload dL_law_146 rfl ?_
  refine ax_iconst dL_law_148 (v := nI 1) (by decide) ?_
  refine ax_iadd dL_law_149 ?_
  refine ax_scO dL_law_150 (sc_ix (k := 1) (by omega) hg) ?_
  refine ax_i2l dL_law_151 ?_
  refine ax_bipush dL_law_152 (v := nI 32) (by decide) ?_
  refine ax_lshl dL_law_154 ?_
  refine ax_aload_n dL_law_155 rfl ?_
  refine ax_iload dL_law_156 rfl ?_
  refine ax_iconst dL_law_158 (v := nI 2) (by decide) ?_
  refine ax_iadd dL_law_159 ?_
  refine ax_scO dL_law_160 (sc_ix (k := 2) (by omega) hg) ?_
  refine ax_i2l dL_law_161 ?_
  refine ax_ldc2 dL_law_162 cnL_27 ?_
  refine ax_land dL_law_165 ?_
  refine ax_lor dL_law_166 ?_
  refine ax_aload_n dL_law_167 rfl ?_
  refine ax_iload dL_law_168 rfl ?_
  refine ax_iconst dL_law_170 (v := nI 3) (by decide) ?_
  refine ax_iadd dL_law_171 ?_
  refine ax_scO dL_law_172 (sc_ix (k := 3) (by omega) hg) ?_
  refine ax_i2l dL_law_173 ?_
  refine ax_bipush dL_law_174 (v := nI 32) (by decide) ?_
  refine ax_lshl dL_law_176 ?_
  refine ax_aload_n dL_law_177 rfl ?_
  refine ax_iload dL_law_178 rfl ?_
  refine ax_iconst dL_law_180 (v := nI 4) (by decide) ?_
  refine ax_iadd dL_law_181 ?_
  refine ax_scO dL_law_182 (sc_ix (k := 4) (by omega) hg) ?_
  refine ax_i2l dL_law_183 ?_
  refine ax_ldc2 dL_law_184 cnL_27 ?_
  refine ax_land dL_law_187 ?_
  refine ax_lor dL_law_188 ?_
  refine ax_aload_n dL_law_189 rfl ?_
  refine ax_iload dL_law_190 rfl ?_
  refine ax_iconst dL_law_192 (v := nI 5) (by decide) ?_
  refine ax_iadd dL_law_193 ?_
  refine ax_scO dL_law_194 (sc_ix (k := 5) (by omega) hg) ?_
  refine ax_i2l dL_law_195 ?_
  refine ax_bipush dL_law_196 (v := nI 32) (by decide) ?_
  refine ax_lshl dL_law_198 ?_
  refine ax_aload_n dL_law_199 rfl ?_
  refine ax_iload dL_law_200 rfl ?_
  refine ax_bipush dL_law_202 (v := nI 6) (by decide) ?_
  refine ax_iadd dL_law_204 ?_
  refine ax_scO dL_law_205 (sc_ix (k := 6) (by omega) hg) ?_
  refine ax_i2l dL_law_206 ?_
  refine ax_ldc2 dL_law_207 cnL_27 ?_
  refine ax_land dL_law_210 ?_
  refine ax_lor dL_law_211 ?_
  refine ax_cV dL_law_212 mmX11_feed lkL_29 miX11_feed msX11_feed (ax_recv_of e64 rfl) rfl rfl (Nat.le_of_ble_eq_true rfl) (Nat.le_of_ble_eq_true rfl) rfl rfl (c_feed (d := d + 58) e64 hCP.2.2.1 (fun h1 hb1 hT1 => ⟨_, rfl, ?_⟩))
  have hCP1 : CP h1 N σ μ _ := ⟨hC.k2 (fun j z => hb1.2.2 j (by omega)), hCP.2.1.kept (Nat.le_of_eq hb1.1.symm) (fun j z => hb1.2.2 j (by omega)), hT1, (by
    obtain ⟨-, ⟨f, e⟩, -⟩ := hCP.2.2
    exact ⟨f, (hb1.2.2 97 (by omega)).trans e⟩), (by
    obtain ⟨-, -, ts, l, D, cs, lb, le, hl, k0, x, f0, a2, a3, a4, a5⟩ := hCP.2.2
    exact ⟨ts, l, D, cs, lb, le, hl, k0, x, f0, a2.kept (fun j z1 z2 => hb1.2.2 j (by omega)), (hb1.2.2 88 (by omega)).trans a3, a4.kept (fun j z1 z2 => hb1.2.2 j (by omega)), a5⟩)⟩
  obtain ⟨⟨th1, hI⟩, hTp, hPs⟩ := MP.kept (h' := h1) ⟨⟨th, hI⟩, hTp, hPs⟩ (fun j z1 z2 => hb1.2.2 j (by omega))
  obtain ⟨si, pt, fa, co, nm, rd, bc, bm, gg, F, S, O, A, e145, -⟩ := id hI
  refine ax_aload_n dL_law_215 rfl ?_
  refine ax_aload_n dL_law_216 rfl ?_
  refine ax_iload dL_law_217 rfl ?_
  refine ax_iconst dL_law_219 (v := nI 1) (by decide) ?_
  refine ax_iadd dL_law_220 ?_
  refine ax_scO dL_law_221 (sc_ix (k := 1) (by omega) hg) ?_
  refine ax_i2l dL_law_222 ?_
  refine ax_bipush dL_law_223 (v := nI 32) (by decide) ?_
  refine ax_lshl dL_law_225 ?_
  refine ax_aload_n dL_law_226 rfl ?_
  refine ax_iload dL_law_227 rfl ?_
  refine ax_iconst dL_law_229 (v := nI 2) (by decide) ?_
  refine ax_iadd dL_law_230 ?_
  refine ax_scO dL_law_231 (sc_ix (k := 2) (by omega) hg) ?_
  refine ax_i2l dL_law_232 ?_
  refine ax_ldc2 dL_law_233 cnL_27 ?_
  refine ax_land dL_law_236 ?_
  refine ax_lor dL_law_237 ?_
  refine ax_aload_n dL_law_238 rfl ?_
  refine ax_iload dL_law_239 rfl ?_
  refine ax_iconst dL_law_241 (v := nI 3) (by decide) ?_
  refine ax_iadd dL_law_242 ?_
  refine ax_scO dL_law_243 (sc_ix (k := 3) (by omega) hg) ?_
  refine ax_i2l dL_law_244 ?_
  refine ax_bipush dL_law_245 (v := nI 32) (by decide) ?_
  refine ax_lshl dL_law_247 ?_
  refine ax_aload_n dL_law_248 rfl ?_
  refine ax_iload dL_law_249 rfl ?_
  refine ax_iconst dL_law_251 (v := nI 4) (by decide) ?_
  refine ax_iadd dL_law_252 ?_
  refine ax_scO dL_law_253 (sc_ix (k := 4) (by omega) hg) ?_
  refine ax_i2l dL_law_254 ?_
  refine ax_ldc2 dL_law_255 cnL_27 ?_
  refine ax_land dL_law_258 ?_
  refine ax_lor dL_law_259 ?_
  refine ax_aload_n dL_law_260 rfl ?_
  refine ax_iload dL_law_261 rfl ?_
  refine ax_iconst dL_law_263 (v := nI 5) (by decide) ?_
  refine ax_iadd dL_law_264 ?_
  refine ax_scO dL_law_265 (sc_ix (k := 5) (by omega) hg) ?_
  refine ax_i2l dL_law_266 ?_
  refine ax_bipush dL_law_267 (v := nI 32) (by decide) ?_
  refine ax_lshl dL_law_269 ?_
  refine ax_aload_n dL_law_270 rfl ?_
  refine ax_iload dL_law_271 rfl ?_
  refine ax_bipush dL_law_273 (v := nI 6) (by decide) ?_
  refine ax_iadd dL_law_275 ?_
  refine ax_scO dL_law_276 (sc_ix (k := 6) (by omega) hg) ?_
  refine ax_i2l dL_law_277 ?_
  refine ax_ldc2 dL_law_278 cnL_27 ?_
  refine ax_land dL_law_281 ?_
  refine ax_lor dL_law_282 ?_
  refine ax_cV dL_law_283 mmX12_feed lkL_33 miX12_feed msX12_feed (ax_recv_of e145 rfl) rfl rfl (Nat.le_of_ble_eq_true rfl) (Nat.le_of_ble_eq_true rfl) rfl rfl (k_feed (d := d + 58) hI hTp (fun h2 hb2 hI2 hT2 => ⟨_, rfl, ?_⟩))
  refine ax_icmp_eqT 1227 dL_law_286 (by decide +kernel) rfl ?_
  exact hq h2 o5 o6 (LJ.mk hN (hSI.mono (by omega)) hMI' hCP1 hb2 (fun j z => by unfold fdP at z; omega) hI2 hT2 (hPs.kept (fun j z1 z2 z3 => hb2.2.2 j (by unfold fdP; omega))) ⟨f7, (hb1.2.2 167 (by omega)).trans e167⟩ (by rw [hb1.1]; exact s1) (by rw [hb1.1]; omega) (by rw [hb1.2.1]; exact Nat.le_trans s3 (Nat.le_add_right _ _)))
theorem law_net (hn : 7 * i + 7 ≤ gn G) (hg : gn G ≤ 3584) (hJ : LJ h i) (hq : ∀ h2 o5 o6, LJ h2 (i + 1) → X G (d + 60) mL_law 1227 [some (.ref 32), some (.ref 64), some (.ref 145), some (.ref 167), some (.int (nI (7 * i))), o5, o6] [] h2 Q) : X G (d + 60) mL_law 291 [some (.ref 32), some (.ref 64), some (.ref 145), some (.ref 167), some (.int (nI (7 * i))), o5, o6] [] h Q := by
  obtain ⟨N, σ, μ, tp, hN, hSI, hMI, hCP, ⟨⟨th, hI⟩, hTp, hPs⟩, ⟨f7, e167⟩, s1, s2, s3⟩ := hJ
  have hi : i ≤ 511 := by omega
  have hC := hCP.1
  obtain ⟨hB, h3, h7, h6⟩ := id hSI
  have hO : sOK N σ := hB.ok (by omega) (by omega)
  have hy0 : σ 0 0 < 2 ^ 30 := by have := hB.2.2.2.2; omega
  have e65 := hCP.2.2.1.1
  obtain ⟨⟨dr, e64⟩, -⟩ := id hC
  obtain ⟨si, pt, fa, co, nm, rd, bc, bm, gg, F, S, O, A, e145, -⟩ := id hI
  have hMI' : ∀ m τ, m < 4 → μ m = some τ → SI N τ (50 * i + 50) := fun m τ z1 z2 => (hMI m τ z1 z2).mono (by omega)
  obtain ⟨hTa, a97, ts, l, D, cs, lb, le, hl, k0, x, f0, a2, a3, a4, hDb, hHb⟩ := id hCP.2.2
  obtain ⟨-, -, h1000, hok⟩ := id hTa
  obtain ⟨-, hL, hE, hA, hTr, hSc⟩ := id hC
  obtain ⟨fm, gm, e129, e130, h168, hgm, hfm, hfe, hfs⟩ := id hCP.2.1
  obtain ⟨ht, hNn⟩ := cutA_ok h1000 hok
  have hZt : tOK (rNet tp l D).2.2.1 := mRead_t 1001 (r0 l D) ⟨hDb, fun r z => absurd z (Nat.not_lt_zero _), fun r z => absurd z (Nat.not_lt_zero _), hHb⟩
  have hZn : (rNet tp l D).1.2 = 0 → nOK (nNet (rNet tp l D)) := fun z => nNet_ok h1000 hok hDb hHb z
  refine ax_aload_n dL_law_291 rfl ?_
  refine ax_cV dL_law_292 mmX11_net lkL_34 miX11_net msX11_net (ax_recv_of e64 rfl) rfl rfl (Nat.le_of_ble_eq_true rfl) (Nat.le_of_ble_eq_true rfl) rfl rfl (c_net (d := d + 18) e64 hTa a2 a3 a4 (hL.any a97) hE.any e130 ht hNn (fun _ => (rNet_L h1000 hok).1) hZn (fun h1 hb1 hT1 hR1 hD1 hor => ⟨_, rfl, ?_⟩))
  have k1 : ∀ j, ¬ ntP j → h1.2.2 j = h.2.2 j := hb1.2.2
  obtain ⟨⟨th1, hI⟩, hTp, hPs⟩ := MP.kept (h' := h1) ⟨⟨th, hI⟩, hTp, hPs⟩ (fun j z1 z2 => k1 j (by unfold ntP; omega))
  obtain ⟨si, pt, fa, co, nm, rd, bc, bm, gg, F, S, O, A, e145, -⟩ := id hI
  refine ax_aload_n dL_law_295 rfl ?_
  refine ax_cV dL_law_296 mmX12_net lkL_38 miX12_net msX12_net (ax_recv_of e145 rfl) rfl rfl (Nat.le_of_ble_eq_true rfl) (Nat.le_of_ble_eq_true rfl) rfl rfl (k_net (d := d + 25) (l := l) (D := D) hN hI hTp hPs (fun h2 hb2 hT2 hK2 hor2 => ⟨_, rfl, ?_⟩))
  refine ax_icmp_eqT 1227 dL_law_299 (by decide +kernel) rfl ?_
  have e167' := (k1 167 (by unfold ntP; omega)).trans e167
  have t1 : 168 ≤ h1.1 := by rw [hb1.1]; exact s1
  have t2 : h1.1 ≤ 168 + 10 * i + 10 := by rw [hb1.1]; omega
  have t3 : h1.2.1 ≤ 60000 + 2300 * i + 2300 := by rw [hb1.2.1]; exact Nat.le_trans s3 (Nat.le_add_right _ _)
  have pr : ∀ j, ntM j → 145 ≤ j ∧ j ≤ 166 := fun j z => by unfold ntM at z; omega
  have rd' : ∃ (ts : List CT) (l : Nat) (D : DD) (cs : List Nat) (lb le : Nat → Nat) (hl : Int32) (k0 : Nat) (x f0 : Int32), TkP h1 ts ∧ h1.2.2 88 = some (eRd k0 x (nI l) f0) ∧ DrD h1 D cs lb le hl ∧ (∀ s, s < 5 → D.1.1 1 s ≤ 9 ∧ D.1.1 2 s ≤ 9) ∧ ∀ r, D.2.1 r ≤ 999 := ⟨_, _, _, _, _, _, _, _, _, _, hR1.2, hR1.1, hD1, hZt.1, hZt.2.2.2⟩
  rcases hor with ⟨z, hk⟩ | ⟨z, hL1, hA1, hE1, g1, e130', hg1⟩
  · rcases hor2 with ⟨-, hI2⟩ | ⟨z2, -⟩
    · have hCP1 : CP h1 N σ μ [] := ⟨hC.k2 (fun j y => y.elim (fun q => k1 j (by unfold ntP; omega)) (fun q => hk j (by omega))), hCP.2.1.kept (Nat.le_of_eq hb1.1.symm) (fun j y => hk j (by omega)), hT1, (by obtain ⟨f, e⟩ := a97; exact ⟨f, (hk 97 (by omega)).trans e⟩), rd'⟩
      exact hq h2 o5 o6 (LJ.mk hN (hSI.mono (by omega)) hMI' hCP1 hb2 pr hI2 hT2 hK2 ⟨f7, e167'⟩ t1 t2 t3)
    · exact absurd z2 z
  · rcases hor2 with ⟨z2, -⟩ | ⟨-, hI2⟩
    · exact absurd z z2
    · have hC1 : Cs h1 (nNet (rNet tp l D)) (s0 (rNet tp l D).2.2.1.2.1) := ⟨⟨dr, (k1 64 (by unfold ntP; omega)).trans e64⟩, hL1, hE1, hA.kept (fun j y1 y2 => k1 j (by unfold ntP; omega)), hTr.kept (fun j y1 y2 => k1 j (by unfold ntP; omega)), hSc.kept (fun j y1 y2 => k1 j (by unfold ntP; omega))⟩
      have hM1 : MkR h1 (nNet (rNet tp l D)) (fun _ => none) := by
        refine ⟨fm, g1, (k1 129 (by unfold ntP; omega)).trans e129, e130', by rw [hb1.1]; exact h168, fun m hm => hg1 m hm, fun m k hm hf => ?_, fun m τ _ y => (by cases y), hfs⟩
        obtain ⟨y1, y2, y3, -⟩ := hfm m k hm hf
        exact ⟨y1, by rw [hb1.1]; exact y2, y3.kept (fun j w1 w2 => k1 j (by unfold ntP; omega)), fun τ y => by cases y⟩
      have hCP1 : CP h1 (nNet (rNet tp l D)) (s0 (rNet tp l D).2.2.1.2.1) (fun _ => none) [] := ⟨hC1, hM1, hT1, hA1.any, rd'⟩
      exact hq h2 o5 o6 (LJ.mk (hZn z) (SI.init hZt.2.2.2) (fun m τ _ y => by cases y) hCP1 hb2 pr hI2 hT2 hK2 ⟨f7, e167'⟩ t1 t2 t3)
theorem law_mark (hn : 7 * i + 7 ≤ gn G) (hg : gn G ≤ 3584) (hJ : LJ h i) (hq : ∀ h2 o5 o6, LJ h2 (i + 1) → X G (d + 60) mL_law 1227 [some (.ref 32), some (.ref 64), some (.ref 145), some (.ref 167), some (.int (nI (7 * i))), o5, o6] [] h2 Q) : X G (d + 60) mL_law 1149 [some (.ref 32), some (.ref 64), some (.ref 145), some (.ref 167), some (.int (nI (7 * i))), o5, o6] [] h Q := by
  obtain ⟨N, σ, μ, tp, hN, hSI, hMI, hCP, ⟨⟨th, hI⟩, hTp, hPs⟩, ⟨f7, e167⟩, s1, s2, s3⟩ := hJ
  have hi : i ≤ 511 := by omega
  have hC := hCP.1
  obtain ⟨hB, h3, h7, h6⟩ := id hSI
  have hO : sOK N σ := hB.ok (by omega) (by omega)
  have hy0 : σ 0 0 < 2 ^ 30 := by have := hB.2.2.2.2; omega
  have e65 := hCP.2.2.1.1
  obtain ⟨⟨dr, e64⟩, -⟩ := id hC
  obtain ⟨si, pt, fa, co, nm, rd, bc, bm, gg, F, S, O, A, e145, -⟩ := id hI
  have hMI' : ∀ m τ, m < 4 → μ m = some τ → SI N τ (50 * i + 50) := fun m τ z1 z2 => (hMI m τ z1 z2).mono (by omega)
  have tl : ∀ (h1 : ax_H) (v : Int32), X G (d + 60) mL_law 1194 [some (.ref 32), some (.ref 64), some (.ref 145), some (.ref 167), some (.int (nI (7 * i))), o5, o6] [.int (if gx G (7 * i + 2) = 0 then nI 0 else nI 1), .int (gx G (7 * i + 1)), .ref 145, .int v] h1 Q → X G (d + 60) mL_law 1173 [some (.ref 32), some (.ref 64), some (.ref 145), some (.ref 167), some (.int (nI (7 * i))), o5, o6] [.int v] h1 Q := by
    intro h1 v hx
    by_cases hb : gx G (7 * i + 2) = 0
    · rw [if_pos hb] at hx
      refine ax_aload_n dL_law_1173 rfl ?_
      refine ax_aload_n dL_law_1174 rfl ?_
      refine ax_iload dL_law_1175 rfl ?_
      refine ax_iconst dL_law_1177 (v := nI 1) (by decide) ?_
      refine ax_iadd dL_law_1178 ?_
      refine ax_scO dL_law_1179 (sc_ix (k := 1) (by omega) hg) ?_
      refine ax_aload_n dL_law_1180 rfl ?_
      refine ax_iload dL_law_1181 rfl ?_
      refine ax_iconst dL_law_1183 (v := nI 2) (by decide) ?_
      refine ax_iadd dL_law_1184 ?_
      refine ax_scO dL_law_1185 (sc_ix (k := 2) (by omega) hg) ?_
      refine ax_if_eqT 1193 dL_law_1186 (by decide +kernel) hb ?_
      refine ax_iconst dL_law_1193 (v := nI 0) (by decide) ?_
      exact hx
    · rw [if_neg hb] at hx
      refine ax_aload_n dL_law_1173 rfl ?_
      refine ax_aload_n dL_law_1174 rfl ?_
      refine ax_iload dL_law_1175 rfl ?_
      refine ax_iconst dL_law_1177 (v := nI 1) (by decide) ?_
      refine ax_iadd dL_law_1178 ?_
      refine ax_scO dL_law_1179 (sc_ix (k := 1) (by omega) hg) ?_
      refine ax_aload_n dL_law_1180 rfl ?_
      refine ax_iload dL_law_1181 rfl ?_
      refine ax_iconst dL_law_1183 (v := nI 2) (by decide) ?_
      refine ax_iadd dL_law_1184 ?_
      refine ax_scO dL_law_1185 (sc_ix (k := 2) (by omega) hg) ?_
      refine ax_if_eqF 1193 dL_law_1186 (by decide +kernel) hb ?_
      refine ax_iconst dL_law_1189 (v := nI 1) (by decide) ?_
      refine ax_goto 1194 dL_law_1190 (by decide +kernel) ?_
      exact hx
  have main : ∀ bb : Int32, bb = (if gx G (7 * i + 2) = 0 then nI 0 else nI 1) → X G (d + 60) mL_law 1170 [some (.ref 32), some (.ref 64), some (.ref 145), some (.ref 167), some (.int (nI (7 * i))), o5, o6] [.int bb, .int (gx G (7 * i + 1)), .ref 64] h Q := by
    intro bb hbb
    rw [← hbb] at tl
    refine ax_cV dL_law_1170 mmX11_mark lkL_120 miX11_mark msX11_mark (ax_recv_of e64 rfl) rfl rfl (Nat.le_of_ble_eq_true rfl) (Nat.le_of_ble_eq_true rfl) rfl rfl (c_mark (d := d + 56) hN hC hCP.2.1 (fun z0 => ⟨_, rfl, ?_⟩) (fun m hm hx hb0 h1 hM1 hC1 hR1 => ⟨_, rfl, ?_⟩) (fun m τ hm hx hb0 hμ h1 hM1 hC1 hR1 => ⟨_, rfl, ?_⟩))
    · refine tl h _ ?_
      refine ax_cV dL_law_1194 mmX12_mark lkL_124 miX12_mark msX12_mark (ax_recv_of e145 rfl) rfl rfl (Nat.le_of_ble_eq_true rfl) (Nat.le_of_ble_eq_true rfl) rfl rfl (k_mark (d := d + 58) hN hI (fun _ h2 hb2 hI2 => ⟨_, rfl, ?_⟩) (fun m hm hx hb' => absurd ⟨m, hm, hx, Or.inl hb'⟩ z0) (fun m τ hm hx hb' hμ => absurd ⟨m, hm, hx, Or.inr (by rw [hμ]; rfl)⟩ z0))
      refine ax_icmp_eqT 1227 dL_law_1197 (by decide +kernel) rfl ?_
      exact hq h2 o5 o6 (LJ.mk hN (hSI.mono (by omega)) hMI' hCP hb2 moP_r hI2 (hTp.mo hb2) (hPs.mo hb2) ⟨f7, e167⟩ s1 (by omega) (Nat.le_trans s3 (Nat.le_add_right _ _)))
    · refine tl h1 _ ?_
      have kk : ∀ j, j < 168 → j ≠ 129 → j ≠ 130 → h1.2.2 j = h.2.2 j := fun j y1 y2 y3 => hM1.2.2.2 j y1 y2 y3 (fun q => q)
      obtain ⟨⟨th1, hI⟩, hTp, hPs⟩ := MP.kept (h' := h1) ⟨⟨th, hI⟩, hTp, hPs⟩ (fun j z1 z2 => kk j (by omega) (by omega) (by omega))
      obtain ⟨si, pt, fa, co, nm, rd, bc, bm, gg, F, S, O, A, e145, -⟩ := id hI
      refine ax_cV dL_law_1194 mmX12_mark lkL_124 miX12_mark msX12_mark (ax_recv_of e145 rfl) rfl rfl (Nat.le_of_ble_eq_true rfl) (Nat.le_of_ble_eq_true rfl) rfl rfl (k_mark (d := d + 58) hN hI (fun z0 => absurd ⟨m, hm, hx, Or.inl hb0⟩ z0) (fun m' hm' hx' _ h2 hb2 hI2 => ⟨_, rfl, ?_⟩) (fun m' τ hm' hx' hb' => absurd hb0 hb'))
      have em := nI_inj (by omega) (by omega) (hx.symm.trans hx')
      rw [← em] at hI2
      refine ax_icmp_eqT 1227 dL_law_1197 (by decide +kernel) rfl ?_
      refine hq h2 o5 o6 (LJ.mk hN (hSI.mono (by omega)) (fun q τ z1 z2 => ?_) ⟨hC1, hR1, hCP.2.2.kept (fun j z1 z2 z3 => kk j (by omega) (by omega) (by omega))⟩ hb2 moP_r hI2 (hTp.mo hb2) (hPs.mo hb2) ⟨f7, (kk 167 (by omega) (by omega) (by omega)).trans e167⟩ (Nat.le_trans s1 hM1.1) (by have := hM1.2.1; omega) (Nat.le_trans hM1.2.2.1 (by omega)))
      by_cases hqm : q = m
      · rw [hqm, upO_eq] at z2
        rw [← Option.some.inj z2]
        exact hSI.mono (by omega)
      · rw [upO_ne hqm] at z2
        exact hMI' q τ z1 z2
    · refine tl h1 _ ?_
      have kk : ∀ j, j < 168 → j ≠ 129 → j ≠ 130 → ¬ (106 ≤ j ∧ j ≤ 114) → h1.2.2 j = h.2.2 j := fun j y1 y2 y3 y4 => hM1.2.2.2 j y1 y2 y3 y4
      obtain ⟨⟨th1, hI⟩, hTp, hPs⟩ := MP.kept (h' := h1) ⟨⟨th, hI⟩, hTp, hPs⟩ (fun j z1 z2 => kk j (by omega) (by omega) (by omega) (by omega))
      obtain ⟨si, pt, fa, co, nm, rd, bc, bm, gg, F, S, O, A, e145, -⟩ := id hI
      refine ax_cV dL_law_1194 mmX12_mark lkL_124 miX12_mark msX12_mark (ax_recv_of e145 rfl) rfl rfl (Nat.le_of_ble_eq_true rfl) (Nat.le_of_ble_eq_true rfl) rfl rfl (k_mark (d := d + 58) hN hI (fun z0 => absurd ⟨m, hm, hx, Or.inr (by rw [hμ]; rfl)⟩ z0) (fun m' _ _ hb' => absurd hb' hb0) (fun m' τ' hm' hx' _ hμ' h2 hb2 hI2 => ⟨_, rfl, ?_⟩))
      have em := nI_inj (by omega) (by omega) (hx.symm.trans hx')
      rw [← em] at hμ'
      rw [← Option.some.inj (hμ.symm.trans hμ')] at hI2
      refine ax_icmp_eqT 1227 dL_law_1197 (by decide +kernel) rfl ?_
      exact hq h2 o5 o6 (LJ.mk hN (hMI' m τ hm hμ) hMI' ⟨hC1, hR1, hCP.2.2.kept (fun j z1 z2 z3 => kk j (by omega) (by omega) (by omega) (by omega))⟩ hb2 moP_r hI2 (hTp.mo hb2) (hPs.mo hb2) ⟨f7, (kk 167 (by omega) (by omega) (by omega) (by omega)).trans e167⟩ (Nat.le_trans s1 hM1.1) (by have := hM1.2.1; omega) (Nat.le_trans hM1.2.2.1 (by omega)))
  by_cases hb : gx G (7 * i + 2) = 0
  · refine ax_aload_n dL_law_1149 rfl ?_
    refine ax_aload_n dL_law_1150 rfl ?_
    refine ax_iload dL_law_1151 rfl ?_
    refine ax_iconst dL_law_1153 (v := nI 1) (by decide) ?_
    refine ax_iadd dL_law_1154 ?_
    refine ax_scO dL_law_1155 (sc_ix (k := 1) (by omega) hg) ?_
    refine ax_aload_n dL_law_1156 rfl ?_
    refine ax_iload dL_law_1157 rfl ?_
    refine ax_iconst dL_law_1159 (v := nI 2) (by decide) ?_
    refine ax_iadd dL_law_1160 ?_
    refine ax_scO dL_law_1161 (sc_ix (k := 2) (by omega) hg) ?_
    refine ax_if_eqT 1169 dL_law_1162 (by decide +kernel) hb ?_
    refine ax_iconst dL_law_1169 (v := nI 0) (by decide) ?_
    exact main _ (by rw [if_pos hb])
  · refine ax_aload_n dL_law_1149 rfl ?_
    refine ax_aload_n dL_law_1150 rfl ?_
    refine ax_iload dL_law_1151 rfl ?_
    refine ax_iconst dL_law_1153 (v := nI 1) (by decide) ?_
    refine ax_iadd dL_law_1154 ?_
    refine ax_scO dL_law_1155 (sc_ix (k := 1) (by omega) hg) ?_
    refine ax_aload_n dL_law_1156 rfl ?_
    refine ax_iload dL_law_1157 rfl ?_
    refine ax_iconst dL_law_1159 (v := nI 2) (by decide) ?_
    refine ax_iadd dL_law_1160 ?_
    refine ax_scO dL_law_1161 (sc_ix (k := 2) (by omega) hg) ?_
    refine ax_if_eqF 1169 dL_law_1162 (by decide +kernel) hb ?_
    refine ax_iconst dL_law_1165 (v := nI 1) (by decide) ?_
    refine ax_goto 1170 dL_law_1166 (by decide +kernel) ?_
    exact main _ (by rw [if_neg hb])
theorem law_cost (hT : Thr G) (hn : 7 * i + 7 ≤ gn G) (hg : gn G ≤ 3584) (hJ : LJ h i) (hq : ∀ h2 o5 o6, LJ h2 (i + 1) → X G (d + 60) mL_law 1227 [some (.ref 32), some (.ref 64), some (.ref 145), some (.ref 167), some (.int (nI (7 * i))), o5, o6] [] h2 Q) : X G (d + 60) mL_law 489 [some (.ref 32), some (.ref 64), some (.ref 145), some (.ref 167), some (.int (nI (7 * i))), o5, o6] [] h Q := by
  obtain ⟨N, σ, μ, tp, hN, hSI, hMI, hCP, ⟨⟨th, hI⟩, hTp, hPs⟩, ⟨f7, e167⟩, s1, s2, s3⟩ := hJ
  have hi : i ≤ 511 := by omega
  have hC := hCP.1
  obtain ⟨hB, h3, h7, h6⟩ := id hSI
  have hO : sOK N σ := hB.ok (by omega) (by omega)
  have hy0 : σ 0 0 < 2 ^ 30 := by have := hB.2.2.2.2; omega
  have e65 := hCP.2.2.1.1
  obtain ⟨⟨dr, e64⟩, -⟩ := id hC
  obtain ⟨si, pt, fa, co, nm, rd, bc, bm, gg, F, S, O, A, e145, -⟩ := id hI
  have hMI' : ∀ m τ, m < 4 → μ m = some τ → SI N τ (50 * i + 50) := fun m τ z1 z2 => (hMI m τ z1 z2).mono (by omega)
  refine ax_aload_n dL_law_489 rfl ?_
  refine ax_aload_n dL_law_490 rfl ?_
  refine ax_iload dL_law_491 rfl ?_
  refine ax_iconst dL_law_493 (v := nI 1) (by decide) ?_
  refine ax_iadd dL_law_494 ?_
  refine ax_scO dL_law_495 (sc_ix (k := 1) (by omega) hg) ?_
  refine ax_aload_n dL_law_496 rfl ?_
  refine ax_callSW dL_law_497 mwL_cost lkL_59 mtL_cost rfl rfl (Nat.le_of_ble_eq_true rfl) (Nat.le_of_ble_eq_true rfl) rfl rfl (w_cost (d := d + 52) hT hN hO hC e167 (fun v h1 z hb1 hC1 e167' => ⟨_, rfl, ?_⟩) (fun z h1 hb1 hC1 => ⟨_, rfl, ?_⟩))
  · show X G (d + 60) mL_law 500 [some (.ref 32), some (.ref 64), some (.ref 145), some (.ref 167), some (.int (nI (7 * i))), o5, o6] [.int 0] h1 Q
    have w1 : ∀ j, (trP j ∨ j = 167) → wrK j := fun j z => by unfold trP at z; unfold wrK; omega
    have hCP1 := hCP.tr hb1 w1 hC1
    obtain ⟨⟨th1, hI⟩, hTp, hPs⟩ := MP.tr ⟨⟨th, hI⟩, hTp, hPs⟩ hb1 w1
    obtain ⟨si, pt, fa, co, nm, rd, bc, bm, gg, F, S, O, A, e145, -⟩ := id hI
    refine ax_istore dL_law_500 (Nat.le_of_ble_eq_true rfl) ?_
    refine ax_aload_n dL_law_502 rfl ?_
    refine ax_aload_n dL_law_503 rfl ?_
    refine ax_iload dL_law_504 rfl ?_
    refine ax_iconst dL_law_506 (v := nI 1) (by decide) ?_
    refine ax_iadd dL_law_507 ?_
    refine ax_scO dL_law_508 (sc_ix (k := 1) (by omega) hg) ?_
    refine ax_cV dL_law_509 mmX12_cost lkL_64 miX12_cost msX12_cost (ax_recv_of e145 rfl) rfl rfl (Nat.le_of_ble_eq_true rfl) (Nat.le_of_ble_eq_true rfl) rfl rfl (k_cost (d := d + 49) hN hO hI (fun v2 h2 z2 hb2 hI2 => ⟨_, rfl, ?_⟩) (fun z2 => by rw [z] at z2; cases z2))
    cases Option.some.inj (z.symm.trans z2)
    obtain ⟨si, pt, fa, co, nm, rd, bc, bm, gg, F, S, O, A, e145, -⟩ := id hI2
    refine ax_istore dL_law_512 (Nat.le_of_ble_eq_true rfl) ?_
    refine ax_aload_n dL_law_514 rfl ?_
    refine ax_cV dL_law_515 mmX12_thrown lkL_65 miX12_thrown msX12_thrown (ax_recv_of e145 rfl) rfl rfl (Nat.le_of_ble_eq_true rfl) (Nat.le_of_ble_eq_true rfl) rfl rfl (k_thrown (d := d + 59) e145 ⟨_, rfl, ?_⟩)
    refine ax_iload dL_law_518 rfl ?_
    refine ax_icmp_eqT 525 dL_law_520 (by decide +kernel) rfl ?_
    refine ax_iload dL_law_525 rfl ?_
    refine ax_if_neF 542 dL_law_527 (by decide +kernel) (by decide) ?_
    have e167 := (hb2.2.2 167 (by unfold moP; omega)).trans e167'
    refine ax_aload_n dL_law_530 rfl ?_
    refine ax_iconst dL_law_531 (v := nI 0) (by decide) ?_
    refine ax_lald dL_law_532 e167 (ax_ix_nI (j := 0) (by decide) (by decide)) ?_
    refine ax_iload dL_law_533 rfl ?_
    refine ax_i2l dL_law_535 ?_
    refine ax_lcmp dL_law_536 ?_
    refine ax_if_eqT 542 dL_law_537 (by decide +kernel) (lg_cmp0.mpr rfl) ?_
    refine ax_goto 1227 dL_law_542 (by decide +kernel) ?_
    exact hq h2 _ _ (LJ.mk hN (hSI.mono (by omega)) hMI' hCP1 hb2 moP_r hI2 (hTp.mo hb2) (hPs.mo hb2) ⟨_, e167'⟩ (Nat.le_trans s1 hb1.1) (by have := hb1.2.1; omega) (Nat.le_trans hb1.2.2.1 (by omega)))
  · show X G (d + 60) mL_law 500 [some (.ref 32), some (.ref 64), some (.ref 145), some (.ref 167), some (.int (nI (7 * i))), o5, o6] [.int 1] h1 Q
    have w1 : ∀ j, trP j → wrK j := fun j z => by unfold trP at z; unfold wrK; omega
    have hCP1 := hCP.tr hb1 w1 hC1
    obtain ⟨⟨th1, hI⟩, hTp, hPs⟩ := MP.tr ⟨⟨th, hI⟩, hTp, hPs⟩ hb1 w1
    obtain ⟨si, pt, fa, co, nm, rd, bc, bm, gg, F, S, O, A, e145, -⟩ := id hI
    refine ax_istore dL_law_500 (Nat.le_of_ble_eq_true rfl) ?_
    refine ax_aload_n dL_law_502 rfl ?_
    refine ax_aload_n dL_law_503 rfl ?_
    refine ax_iload dL_law_504 rfl ?_
    refine ax_iconst dL_law_506 (v := nI 1) (by decide) ?_
    refine ax_iadd dL_law_507 ?_
    refine ax_scO dL_law_508 (sc_ix (k := 1) (by omega) hg) ?_
    refine ax_cV dL_law_509 mmX12_cost lkL_64 miX12_cost msX12_cost (ax_recv_of e145 rfl) rfl rfl (Nat.le_of_ble_eq_true rfl) (Nat.le_of_ble_eq_true rfl) rfl rfl (k_cost (d := d + 49) hN hO hI (fun v2 h2 z2 => by rw [z] at z2; cases z2) (fun _ h2 hb2 hI2 => ⟨_, rfl, ?_⟩))
    obtain ⟨si, pt, fa, co, nm, rd, bc, bm, gg, F, S, O, A, e145, -⟩ := id hI2
    refine ax_istore dL_law_512 (Nat.le_of_ble_eq_true rfl) ?_
    refine ax_aload_n dL_law_514 rfl ?_
    refine ax_cV dL_law_515 mmX12_thrown lkL_65 miX12_thrown msX12_thrown (ax_recv_of e145 rfl) rfl rfl (Nat.le_of_ble_eq_true rfl) (Nat.le_of_ble_eq_true rfl) rfl rfl (k_thrown (d := d + 59) e145 ⟨_, rfl, ?_⟩)
    refine ax_iload dL_law_518 rfl ?_
    refine ax_icmp_eqT 525 dL_law_520 (by decide +kernel) rfl ?_
    refine ax_iload dL_law_525 rfl ?_
    refine ax_if_neT 542 dL_law_527 (by decide +kernel) (by decide) ?_
    refine ax_goto 1227 dL_law_542 (by decide +kernel) ?_
    exact hq h2 _ _ (LJ.mk hN (hSI.mono (by omega)) hMI' hCP1 hb2 moP_r hI2 (hTp.mo hb2) (hPs.mo hb2) ⟨f7, (hb1.2.2.2 167 (by unfold trP; omega)).trans e167⟩ (Nat.le_trans s1 hb1.1) (by have := hb1.2.1; omega) (Nat.le_trans hb1.2.2.1 (by omega)))
theorem law_swept (hT : Thr G) (hn : 7 * i + 7 ≤ gn G) (hg : gn G ≤ 3584) (hJ : LJ h i) (hq : ∀ h2 o5 o6, LJ h2 (i + 1) → X G (d + 60) mL_law 1227 [some (.ref 32), some (.ref 64), some (.ref 145), some (.ref 167), some (.int (nI (7 * i))), o5, o6] [] h2 Q) : X G (d + 60) mL_law 946 [some (.ref 32), some (.ref 64), some (.ref 145), some (.ref 167), some (.int (nI (7 * i))), o5, o6] [] h Q := by
  obtain ⟨N, σ, μ, tp, hN, hSI, hMI, hCP, ⟨⟨th, hI⟩, hTp, hPs⟩, ⟨f7, e167⟩, s1, s2, s3⟩ := hJ
  have hi : i ≤ 511 := by omega
  have hC := hCP.1
  obtain ⟨hB, h3, h7, h6⟩ := id hSI
  have hO : sOK N σ := hB.ok (by omega) (by omega)
  have hy0 : σ 0 0 < 2 ^ 30 := by have := hB.2.2.2.2; omega
  have e65 := hCP.2.2.1.1
  obtain ⟨⟨dr, e64⟩, -⟩ := id hC
  obtain ⟨si, pt, fa, co, nm, rd, bc, bm, gg, F, S, O, A, e145, -⟩ := id hI
  have hMI' : ∀ m τ, m < 4 → μ m = some τ → SI N τ (50 * i + 50) := fun m τ z1 z2 => (hMI m τ z1 z2).mono (by omega)
  refine ax_aload_n dL_law_946 rfl ?_
  refine ax_aload_n dL_law_947 rfl ?_
  refine ax_iload dL_law_948 rfl ?_
  refine ax_iconst dL_law_950 (v := nI 1) (by decide) ?_
  refine ax_iadd dL_law_951 ?_
  refine ax_scO dL_law_952 (sc_ix (k := 1) (by omega) hg) ?_
  refine ax_aload_n dL_law_953 rfl ?_
  refine ax_iload dL_law_954 rfl ?_
  refine ax_iconst dL_law_956 (v := nI 2) (by decide) ?_
  refine ax_iadd dL_law_957 ?_
  refine ax_scO dL_law_958 (sc_ix (k := 2) (by omega) hg) ?_
  refine ax_aload_n dL_law_959 rfl ?_
  refine ax_callSW dL_law_960 mwL_swept lkL_102 mtL_swept rfl rfl (Nat.le_of_ble_eq_true rfl) (Nat.le_of_ble_eq_true rfl) rfl rfl (w_swept (d := d + 51) hT hN hB (by omega) (by omega) (by omega) hC e167 (fun v h1 z hb1 hC1 e167' => ⟨_, rfl, ?_⟩) (fun z h1 hb1 hC1 => ⟨_, rfl, ?_⟩))
  · show X G (d + 60) mL_law 963 [some (.ref 32), some (.ref 64), some (.ref 145), some (.ref 167), some (.int (nI (7 * i))), o5, o6] [.int 0] h1 Q
    have w1 : ∀ j, (trP j ∨ j = 167) → wrK j := fun j z => by unfold trP at z; unfold wrK; omega
    have hCP1 := hCP.tr hb1 w1 hC1
    obtain ⟨⟨th1, hI⟩, hTp, hPs⟩ := MP.tr ⟨⟨th, hI⟩, hTp, hPs⟩ hb1 w1
    obtain ⟨si, pt, fa, co, nm, rd, bc, bm, gg, F, S, O, A, e145, -⟩ := id hI
    refine ax_istore dL_law_963 (Nat.le_of_ble_eq_true rfl) ?_
    refine ax_aload_n dL_law_965 rfl ?_
    refine ax_aload_n dL_law_966 rfl ?_
    refine ax_iload dL_law_967 rfl ?_
    refine ax_iconst dL_law_969 (v := nI 1) (by decide) ?_
    refine ax_iadd dL_law_970 ?_
    refine ax_scO dL_law_971 (sc_ix (k := 1) (by omega) hg) ?_
    refine ax_aload_n dL_law_972 rfl ?_
    refine ax_iload dL_law_973 rfl ?_
    refine ax_iconst dL_law_975 (v := nI 2) (by decide) ?_
    refine ax_iadd dL_law_976 ?_
    refine ax_scO dL_law_977 (sc_ix (k := 2) (by omega) hg) ?_
    refine ax_cV dL_law_978 mmX12_swept lkL_105 miX12_swept msX12_swept (ax_recv_of e145 rfl) rfl rfl (Nat.le_of_ble_eq_true rfl) (Nat.le_of_ble_eq_true rfl) rfl rfl (k_swept (d := d + 46) hN hB (by omega) (by omega) (by omega) hI (fun v2 h2 z2 hb2 hI2 => ⟨_, rfl, ?_⟩) (fun z2 => by rw [z] at z2; cases z2))
    cases Option.some.inj (z.symm.trans z2)
    obtain ⟨si, pt, fa, co, nm, rd, bc, bm, gg, F, S, O, A, e145, -⟩ := id hI2
    refine ax_istore dL_law_981 (Nat.le_of_ble_eq_true rfl) ?_
    refine ax_aload_n dL_law_983 rfl ?_
    refine ax_cV dL_law_984 mmX12_thrown lkL_65 miX12_thrown msX12_thrown (ax_recv_of e145 rfl) rfl rfl (Nat.le_of_ble_eq_true rfl) (Nat.le_of_ble_eq_true rfl) rfl rfl (k_thrown (d := d + 59) e145 ⟨_, rfl, ?_⟩)
    refine ax_iload dL_law_987 rfl ?_
    refine ax_icmp_eqT 994 dL_law_989 (by decide +kernel) rfl ?_
    refine ax_iload dL_law_994 rfl ?_
    refine ax_if_neF 1011 dL_law_996 (by decide +kernel) (by decide) ?_
    have e167 := (hb2.2.2 167 (by unfold moP; omega)).trans e167'
    refine ax_aload_n dL_law_999 rfl ?_
    refine ax_iconst dL_law_1000 (v := nI 0) (by decide) ?_
    refine ax_lald dL_law_1001 e167 (ax_ix_nI (j := 0) (by decide) (by decide)) ?_
    refine ax_iload dL_law_1002 rfl ?_
    refine ax_i2l dL_law_1004 ?_
    refine ax_lcmp dL_law_1005 ?_
    refine ax_if_eqT 1011 dL_law_1006 (by decide +kernel) (lg_cmp0.mpr rfl) ?_
    refine ax_goto 1227 dL_law_1011 (by decide +kernel) ?_
    exact hq h2 _ _ (LJ.mk hN (hSI.mono (by omega)) hMI' hCP1 hb2 moP_r hI2 (hTp.mo hb2) (hPs.mo hb2) ⟨_, e167'⟩ (Nat.le_trans s1 hb1.1) (by have := hb1.2.1; omega) (Nat.le_trans hb1.2.2.1 (by omega)))
  · show X G (d + 60) mL_law 963 [some (.ref 32), some (.ref 64), some (.ref 145), some (.ref 167), some (.int (nI (7 * i))), o5, o6] [.int 1] h1 Q
    have w1 : ∀ j, trP j → wrK j := fun j z => by unfold trP at z; unfold wrK; omega
    have hCP1 := hCP.tr hb1 w1 hC1
    obtain ⟨⟨th1, hI⟩, hTp, hPs⟩ := MP.tr ⟨⟨th, hI⟩, hTp, hPs⟩ hb1 w1
    obtain ⟨si, pt, fa, co, nm, rd, bc, bm, gg, F, S, O, A, e145, -⟩ := id hI
    refine ax_istore dL_law_963 (Nat.le_of_ble_eq_true rfl) ?_
    refine ax_aload_n dL_law_965 rfl ?_
    refine ax_aload_n dL_law_966 rfl ?_
    refine ax_iload dL_law_967 rfl ?_
    refine ax_iconst dL_law_969 (v := nI 1) (by decide) ?_
    refine ax_iadd dL_law_970 ?_
    refine ax_scO dL_law_971 (sc_ix (k := 1) (by omega) hg) ?_
    refine ax_aload_n dL_law_972 rfl ?_
    refine ax_iload dL_law_973 rfl ?_
    refine ax_iconst dL_law_975 (v := nI 2) (by decide) ?_
    refine ax_iadd dL_law_976 ?_
    refine ax_scO dL_law_977 (sc_ix (k := 2) (by omega) hg) ?_
    refine ax_cV dL_law_978 mmX12_swept lkL_105 miX12_swept msX12_swept (ax_recv_of e145 rfl) rfl rfl (Nat.le_of_ble_eq_true rfl) (Nat.le_of_ble_eq_true rfl) rfl rfl (k_swept (d := d + 46) hN hB (by omega) (by omega) (by omega) hI (fun v2 h2 z2 => by rw [z] at z2; cases z2) (fun _ h2 hb2 hI2 => ⟨_, rfl, ?_⟩))
    obtain ⟨si, pt, fa, co, nm, rd, bc, bm, gg, F, S, O, A, e145, -⟩ := id hI2
    refine ax_istore dL_law_981 (Nat.le_of_ble_eq_true rfl) ?_
    refine ax_aload_n dL_law_983 rfl ?_
    refine ax_cV dL_law_984 mmX12_thrown lkL_65 miX12_thrown msX12_thrown (ax_recv_of e145 rfl) rfl rfl (Nat.le_of_ble_eq_true rfl) (Nat.le_of_ble_eq_true rfl) rfl rfl (k_thrown (d := d + 59) e145 ⟨_, rfl, ?_⟩)
    refine ax_iload dL_law_987 rfl ?_
    refine ax_icmp_eqT 994 dL_law_989 (by decide +kernel) rfl ?_
    refine ax_iload dL_law_994 rfl ?_
    refine ax_if_neT 1011 dL_law_996 (by decide +kernel) (by decide) ?_
    refine ax_goto 1227 dL_law_1011 (by decide +kernel) ?_
    exact hq h2 _ _ (LJ.mk hN (hSI.mono (by omega)) hMI' hCP1 hb2 moP_r hI2 (hTp.mo hb2) (hPs.mo hb2) ⟨f7, (hb1.2.2.2 167 (by unfold trP; omega)).trans e167⟩ (Nat.le_trans s1 hb1.1) (by have := hb1.2.1; omega) (Nat.le_trans hb1.2.2.1 (by omega)))
theorem law_newcomer (hT : Thr G) (hn : 7 * i + 7 ≤ gn G) (hg : gn G ≤ 3584) (hJ : LJ h i) (hq : ∀ h2 o5 o6, LJ h2 (i + 1) → X G (d + 60) mL_law 1227 [some (.ref 32), some (.ref 64), some (.ref 145), some (.ref 167), some (.int (nI (7 * i))), o5, o6] [] h2 Q) : X G (d + 60) mL_law 828 [some (.ref 32), some (.ref 64), some (.ref 145), some (.ref 167), some (.int (nI (7 * i))), o5, o6] [] h Q := by
  obtain ⟨N, σ, μ, tp, hN, hSI, hMI, hCP, ⟨⟨th, hI⟩, hTp, hPs⟩, ⟨f7, e167⟩, s1, s2, s3⟩ := hJ
  have hi : i ≤ 511 := by omega
  have hC := hCP.1
  obtain ⟨hB, h3, h7, h6⟩ := id hSI
  have hO : sOK N σ := hB.ok (by omega) (by omega)
  have hy0 : σ 0 0 < 2 ^ 30 := by have := hB.2.2.2.2; omega
  have e65 := hCP.2.2.1.1
  obtain ⟨⟨dr, e64⟩, -⟩ := id hC
  obtain ⟨si, pt, fa, co, nm, rd, bc, bm, gg, F, S, O, A, e145, -⟩ := id hI
  have hMI' : ∀ m τ, m < 4 → μ m = some τ → SI N τ (50 * i + 50) := fun m τ z1 z2 => (hMI m τ z1 z2).mono (by omega)
  refine ax_aload_n dL_law_828 rfl ?_
  refine ax_aload_n dL_law_829 rfl ?_
  refine ax_iload dL_law_830 rfl ?_
  refine ax_iconst dL_law_832 (v := nI 1) (by decide) ?_
  refine ax_iadd dL_law_833 ?_
  refine ax_scO dL_law_834 (sc_ix (k := 1) (by omega) hg) ?_
  refine ax_aload_n dL_law_835 rfl ?_
  refine ax_iload dL_law_836 rfl ?_
  refine ax_iconst dL_law_838 (v := nI 2) (by decide) ?_
  refine ax_iadd dL_law_839 ?_
  refine ax_scO dL_law_840 (sc_ix (k := 2) (by omega) hg) ?_
  refine ax_aload_n dL_law_841 rfl ?_
  refine ax_iload dL_law_842 rfl ?_
  refine ax_iconst dL_law_844 (v := nI 3) (by decide) ?_
  refine ax_iadd dL_law_845 ?_
  refine ax_scO dL_law_846 (sc_ix (k := 3) (by omega) hg) ?_
  refine ax_aload_n dL_law_847 rfl ?_
  refine ax_iload dL_law_848 rfl ?_
  refine ax_iconst dL_law_850 (v := nI 4) (by decide) ?_
  refine ax_iadd dL_law_851 ?_
  refine ax_scO dL_law_852 (sc_ix (k := 4) (by omega) hg) ?_
  refine ax_aload_n dL_law_853 rfl ?_
  refine ax_iload dL_law_854 rfl ?_
  refine ax_iconst dL_law_856 (v := nI 5) (by decide) ?_
  refine ax_iadd dL_law_857 ?_
  refine ax_scO dL_law_858 (sc_ix (k := 5) (by omega) hg) ?_
  refine ax_aload_n dL_law_859 rfl ?_
  refine ax_iload dL_law_860 rfl ?_
  refine ax_bipush dL_law_862 (v := nI 6) (by decide) ?_
  refine ax_iadd dL_law_864 ?_
  refine ax_scO dL_law_865 (sc_ix (k := 6) (by omega) hg) ?_
  refine ax_aload_n dL_law_866 rfl ?_
  refine ax_callSW dL_law_867 mwL_newcomer lkL_98 mtL_newcomer rfl rfl (Nat.le_of_ble_eq_true rfl) (Nat.le_of_ble_eq_true rfl) rfl rfl (w_newcomer (d := d + 51) hT hN hB (by omega) (by omega) (by omega) hC e167 (fun v h1 z hb1 hC1 e167' => ⟨_, rfl, ?_⟩) (fun z h1 hb1 hC1 => ⟨_, rfl, ?_⟩))
  · show X G (d + 60) mL_law 870 [some (.ref 32), some (.ref 64), some (.ref 145), some (.ref 167), some (.int (nI (7 * i))), o5, o6] [.int 0] h1 Q
    have w1 : ∀ j, (trP j ∨ j = 167) → wrK j := fun j z => by unfold trP at z; unfold wrK; omega
    have hCP1 := hCP.tr hb1 w1 hC1
    obtain ⟨⟨th1, hI⟩, hTp, hPs⟩ := MP.tr ⟨⟨th, hI⟩, hTp, hPs⟩ hb1 w1
    obtain ⟨si, pt, fa, co, nm, rd, bc, bm, gg, F, S, O, A, e145, -⟩ := id hI
    refine ax_istore dL_law_870 (Nat.le_of_ble_eq_true rfl) ?_
    refine ax_aload_n dL_law_872 rfl ?_
    refine ax_aload_n dL_law_873 rfl ?_
    refine ax_iload dL_law_874 rfl ?_
    refine ax_iconst dL_law_876 (v := nI 1) (by decide) ?_
    refine ax_iadd dL_law_877 ?_
    refine ax_scO dL_law_878 (sc_ix (k := 1) (by omega) hg) ?_
    refine ax_aload_n dL_law_879 rfl ?_
    refine ax_iload dL_law_880 rfl ?_
    refine ax_iconst dL_law_882 (v := nI 2) (by decide) ?_
    refine ax_iadd dL_law_883 ?_
    refine ax_scO dL_law_884 (sc_ix (k := 2) (by omega) hg) ?_
    refine ax_aload_n dL_law_885 rfl ?_
    refine ax_iload dL_law_886 rfl ?_
    refine ax_iconst dL_law_888 (v := nI 3) (by decide) ?_
    refine ax_iadd dL_law_889 ?_
    refine ax_scO dL_law_890 (sc_ix (k := 3) (by omega) hg) ?_
    refine ax_aload_n dL_law_891 rfl ?_
    refine ax_iload dL_law_892 rfl ?_
    refine ax_iconst dL_law_894 (v := nI 4) (by decide) ?_
    refine ax_iadd dL_law_895 ?_
    refine ax_scO dL_law_896 (sc_ix (k := 4) (by omega) hg) ?_
    refine ax_aload_n dL_law_897 rfl ?_
    refine ax_iload dL_law_898 rfl ?_
    refine ax_iconst dL_law_900 (v := nI 5) (by decide) ?_
    refine ax_iadd dL_law_901 ?_
    refine ax_scO dL_law_902 (sc_ix (k := 5) (by omega) hg) ?_
    refine ax_aload_n dL_law_903 rfl ?_
    refine ax_iload dL_law_904 rfl ?_
    refine ax_bipush dL_law_906 (v := nI 6) (by decide) ?_
    refine ax_iadd dL_law_908 ?_
    refine ax_scO dL_law_909 (sc_ix (k := 6) (by omega) hg) ?_
    refine ax_cV dL_law_910 mmX12_newcomer lkL_101 miX12_newcomer msX12_newcomer (ax_recv_of e145 rfl) rfl rfl (Nat.le_of_ble_eq_true rfl) (Nat.le_of_ble_eq_true rfl) rfl rfl (k_newcomer (d := d + 46) hN (h6 _ (Nat.le_refl _)) hB (by omega) (by omega) (by omega) hI (fun _ h2 hb2 hI2 => ⟨_, rfl, ?_⟩) (fun z2 => absurd z.1 z2))
    rw [z.2] at e167'
    obtain ⟨si, pt, fa, co, nm, rd, bc, bm, gg, F, S, O, A, e145, -⟩ := id hI2
    refine ax_istore dL_law_913 (Nat.le_of_ble_eq_true rfl) ?_
    refine ax_aload_n dL_law_915 rfl ?_
    refine ax_cV dL_law_916 mmX12_thrown lkL_65 miX12_thrown msX12_thrown (ax_recv_of e145 rfl) rfl rfl (Nat.le_of_ble_eq_true rfl) (Nat.le_of_ble_eq_true rfl) rfl rfl (k_thrown (d := d + 59) e145 ⟨_, rfl, ?_⟩)
    refine ax_iload dL_law_919 rfl ?_
    refine ax_icmp_eqT 926 dL_law_921 (by decide +kernel) rfl ?_
    refine ax_iload dL_law_926 rfl ?_
    refine ax_if_neF 943 dL_law_928 (by decide +kernel) (by decide) ?_
    have e167 := (hb2.2.2 167 (by unfold moP; omega)).trans e167'
    refine ax_aload_n dL_law_931 rfl ?_
    refine ax_iconst dL_law_932 (v := nI 0) (by decide) ?_
    refine ax_lald dL_law_933 e167 (ax_ix_nI (j := 0) (by decide) (by decide)) ?_
    refine ax_iload dL_law_934 rfl ?_
    refine ax_i2l dL_law_936 ?_
    refine ax_lcmp dL_law_937 ?_
    refine ax_if_eqT 943 dL_law_938 (by decide +kernel) (lg_cmp0.mpr rfl) ?_
    refine ax_goto 1227 dL_law_943 (by decide +kernel) ?_
    exact hq h2 _ _ (LJ.mk hN (hSI.mono (by omega)) hMI' hCP1 hb2 moP_r hI2 (hTp.mo hb2) (hPs.mo hb2) ⟨_, e167'⟩ (Nat.le_trans s1 hb1.1) (by have := hb1.2.1; omega) (Nat.le_trans hb1.2.2.1 (by omega)))
  · show X G (d + 60) mL_law 870 [some (.ref 32), some (.ref 64), some (.ref 145), some (.ref 167), some (.int (nI (7 * i))), o5, o6] [.int 1] h1 Q
    have w1 : ∀ j, trP j → wrK j := fun j z => by unfold trP at z; unfold wrK; omega
    have hCP1 := hCP.tr hb1 w1 hC1
    obtain ⟨⟨th1, hI⟩, hTp, hPs⟩ := MP.tr ⟨⟨th, hI⟩, hTp, hPs⟩ hb1 w1
    obtain ⟨si, pt, fa, co, nm, rd, bc, bm, gg, F, S, O, A, e145, -⟩ := id hI
    refine ax_istore dL_law_870 (Nat.le_of_ble_eq_true rfl) ?_
    refine ax_aload_n dL_law_872 rfl ?_
    refine ax_aload_n dL_law_873 rfl ?_
    refine ax_iload dL_law_874 rfl ?_
    refine ax_iconst dL_law_876 (v := nI 1) (by decide) ?_
    refine ax_iadd dL_law_877 ?_
    refine ax_scO dL_law_878 (sc_ix (k := 1) (by omega) hg) ?_
    refine ax_aload_n dL_law_879 rfl ?_
    refine ax_iload dL_law_880 rfl ?_
    refine ax_iconst dL_law_882 (v := nI 2) (by decide) ?_
    refine ax_iadd dL_law_883 ?_
    refine ax_scO dL_law_884 (sc_ix (k := 2) (by omega) hg) ?_
    refine ax_aload_n dL_law_885 rfl ?_
    refine ax_iload dL_law_886 rfl ?_
    refine ax_iconst dL_law_888 (v := nI 3) (by decide) ?_
    refine ax_iadd dL_law_889 ?_
    refine ax_scO dL_law_890 (sc_ix (k := 3) (by omega) hg) ?_
    refine ax_aload_n dL_law_891 rfl ?_
    refine ax_iload dL_law_892 rfl ?_
    refine ax_iconst dL_law_894 (v := nI 4) (by decide) ?_
    refine ax_iadd dL_law_895 ?_
    refine ax_scO dL_law_896 (sc_ix (k := 4) (by omega) hg) ?_
    refine ax_aload_n dL_law_897 rfl ?_
    refine ax_iload dL_law_898 rfl ?_
    refine ax_iconst dL_law_900 (v := nI 5) (by decide) ?_
    refine ax_iadd dL_law_901 ?_
    refine ax_scO dL_law_902 (sc_ix (k := 5) (by omega) hg) ?_
    refine ax_aload_n dL_law_903 rfl ?_
    refine ax_iload dL_law_904 rfl ?_
    refine ax_bipush dL_law_906 (v := nI 6) (by decide) ?_
    refine ax_iadd dL_law_908 ?_
    refine ax_scO dL_law_909 (sc_ix (k := 6) (by omega) hg) ?_
    refine ax_cV dL_law_910 mmX12_newcomer lkL_101 miX12_newcomer msX12_newcomer (ax_recv_of e145 rfl) rfl rfl (Nat.le_of_ble_eq_true rfl) (Nat.le_of_ble_eq_true rfl) rfl rfl (k_newcomer (d := d + 46) hN (h6 _ (Nat.le_refl _)) hB (by omega) (by omega) (by omega) hI (fun z2 => absurd z2 z) (fun _ h2 hb2 hI2 => ⟨_, rfl, ?_⟩))
    obtain ⟨si, pt, fa, co, nm, rd, bc, bm, gg, F, S, O, A, e145, -⟩ := id hI2
    refine ax_istore dL_law_913 (Nat.le_of_ble_eq_true rfl) ?_
    refine ax_aload_n dL_law_915 rfl ?_
    refine ax_cV dL_law_916 mmX12_thrown lkL_65 miX12_thrown msX12_thrown (ax_recv_of e145 rfl) rfl rfl (Nat.le_of_ble_eq_true rfl) (Nat.le_of_ble_eq_true rfl) rfl rfl (k_thrown (d := d + 59) e145 ⟨_, rfl, ?_⟩)
    refine ax_iload dL_law_919 rfl ?_
    refine ax_icmp_eqT 926 dL_law_921 (by decide +kernel) rfl ?_
    refine ax_iload dL_law_926 rfl ?_
    refine ax_if_neT 943 dL_law_928 (by decide +kernel) (by decide) ?_
    refine ax_goto 1227 dL_law_943 (by decide +kernel) ?_
    exact hq h2 _ _ (LJ.mk hN (hSI.mono (by omega)) hMI' hCP1 hb2 moP_r hI2 (hTp.mo hb2) (hPs.mo hb2) ⟨f7, (hb1.2.2.2 167 (by unfold trP; omega)).trans e167⟩ (Nat.le_trans s1 hb1.1) (by have := hb1.2.1; omega) (Nat.le_trans hb1.2.2.1 (by omega)))
end CAT
