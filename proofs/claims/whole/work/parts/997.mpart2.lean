/-! ===== the model: parts and whole expressions ===== -/
section MPU
variable {G : ax_G} {d : Nat} {h : ax_H} {Q : ax_O → ax_H → Prop}
variable {th ta si pt fa co nm rd ask nw os sw bc bm : Int32} {gg : Int64}
variable {ts : List CT} {So Va : Nat → Nat} {s : Nat × Nat} {l t : Nat}
theorem k_joinAll {dep dd : Nat} {F : ES → ES} (ht3 : t ≤ 3) (ht : tsOK ts) (hE : tsE ts) (hT : TkQ ts So Va) (hn : FOK ts F) (hg : Gr ts F) (hN : DoesM th ta si nm ask nw os sw bc bm gg G (dd + 1) mX12_takePart (ax_in 4 [.ref 145, .int (nI dep)]) ts So Va l t F) : DoesM th ta si nm ask nw os sw bc bm gg G (dd + 5) mX12_all (ax_in 3 [.ref 145, .int (nI dep)]) ts So Va l t (joinAll ts F) := by
  have j3 := k_products (dd := dd) ht3 ht hE hT hn hg hN
  have g3 := join_gr (lv := 3) (by omega) hE hn hg
  have j2 := k_sums (dd := dd + 1) ht3 ht hE hT (join_ok hn) g3 j3
  have g2 := join_gr (lv := 2) (by omega) hE (join_ok hn) g3
  have j1 := k_test (dd := dd + 2) ht3 ht hE hT (join_ok (join_ok hn)) g2 j2
  have g1 := join_gr (lv := 1) (by omega) hE (join_ok (join_ok hn)) g2
  exact k_all (dd := dd + 3) ht3 ht hE hT (join_ok (join_ok (join_ok hn))) g1 j1
theorem mPart_z {e : ES} (h0 : ¬ e.1.2 = 0) : ∀ r, mPart ts l r e = e
  | 0 => if_neg h0
  | _ + 1 => if_neg h0
theorem mPart_n {e : ES} (h0 : e.1.2 = 0) (hp : ¬ isPt ts l e.1.1) : ∀ r, mPart ts l r e = (sFail ts 1 e.1, e.2)
  | 0 => (if_pos h0).trans (if_neg hp)
  | _ + 1 => (if_pos h0).trans (if_neg hp)
theorem mPart_0 {e : ES} (h0 : e.1.2 = 0) (hp : isPt ts l e.1.1) : mPart ts l 0 e = (sFail ts 5 e.1, e.2) := (if_pos h0).trans (if_pos hp)
theorem mPart_a {e : ES} {r : Nat} (h0 : e.1.2 = 0) (hf : ¬ fIn l (kA ts e.1.1) = 0) : mPart ts l (r + 1) e = (sStep ts e.1, (eEmit (stp (kA ts e.1.1)) e).2) := ((if_pos h0).trans (if_pos (Or.inl hf))).trans (if_pos hf)
theorem mPart_b {e : ES} {r : Nat} (h0 : e.1.2 = 0) (hf : fIn l (kA ts e.1.1) = 0) (hk : kA ts e.1.1 = 2) : mPart ts l (r + 1) e = (sStep ts e.1, (eEmit (16 + nA ts e.1.1) e).2) := (((if_pos h0).trans (if_pos (Or.inr (Or.inl hk)))).trans (if_neg (fun z => z hf))).trans (if_pos hk)
theorem mPart_c {e : ES} {r : Nat} (h0 : e.1.2 = 0) (hf : fIn l (kA ts e.1.1) = 0) (hk : kA ts e.1.1 = 14) : mPart ts l (r + 1) e = eEmit 8 (mPart ts l r (sStep ts e.1, e.2)) := ((((if_pos h0).trans (if_pos (Or.inr (Or.inr (Or.inl hk))))).trans (if_neg (fun z => z hf))).trans (if_neg (by omega))).trans (if_pos hk)
theorem mPart_d {e : ES} {r : Nat} (h0 : e.1.2 = 0) (hf : fIn l (kA ts e.1.1) = 0) (hk : kA ts e.1.1 = 4) : mPart ts l (r + 1) e = (sSkip ts 5 (joinAll ts (mPart ts l r) (sStep ts e.1, e.2)).1, (joinAll ts (mPart ts l r) (sStep ts e.1, e.2)).2) := ((((if_pos h0).trans (if_pos (Or.inr (Or.inr (Or.inr hk))))).trans (if_neg (fun z => z hf))).trans (if_neg (by omega))).trans (if_neg (by omega))
theorem k_part (ht3 : t ≤ 3) (hl : l < 3) (ht : tsOK ts) (hE : tsE ts) (hT : TkQ ts So Va) : ∀ (r d dep : Nat), dep + r = 5 → DoesM th ta si nm ask nw os sw bc bm gg G (d + 5 * r + 2) mX12_takePart (ax_in 4 [.ref 145, .int (nI dep)]) ts So Va l t (mPart ts l r) := by
  intro r
  induction r with
  | zero =>
    intro d dep hd e h Q O A Os As bs ho hle e145 hP e152 e153 hX hq
    refine k_partPre (d := d) (by omega) hl ht ho.1 hT e145 hP (fun _ _ z => absurd z (by omega)) (fun h0 hp _ h' hb e' => ?_) (fun h0 hp h' hb e' => ?_) (fun h0 => ?_)
    · rw [mPart_0 h0 hp] at hq
      exact hq h' O A (hb.wide (fun j z => Or.inl z)) e' ((hb.2.2 152 (by decide)).trans e152) ((hb.2.2 153 (by decide)).trans e153) hX
    · rw [mPart_n h0 hp] at hq
      exact hq h' O A (hb.wide (fun j z => Or.inl z)) e' ((hb.2.2 152 (by decide)).trans e152) ((hb.2.2 153 (by decide)).trans e153) hX
    · rw [mPart_z h0] at hq
      exact hq h O A But.rf e145 e152 e153 hX
  | succ r ih =>
    intro d dep hd
    rw [show d + 5 * (r + 1) + 2 = (d + 5 * r + 5) + 2 by omega]
    intro e h Q O A Os As bs ho hle e145 hP e152 e153 hX hq
    have hs1 := ho.1.1
    have ht1 := ht.1
    have hk31 := (ht.2 _ hs1).1
    have og : FOK ts (mPart ts l r) := mPart_ok ht r
    have gg' : Gr ts (mPart ts l r) := mPart_gr ht hE r
    refine k_partPre (d := d + 5 * r + 5) (by omega) hl ht ho.1 hT e145 hP (fun h0 hp _ => ?_) (fun _ _ z => absurd z (by omega)) (fun h0 hp h' hb e' => ?_) (fun h0 => ?_)
    · obtain ⟨⟨f1, f2, f3, e147, e148, e149, qq⟩, -⟩ := id hP
      obtain ⟨r1, -, r3⟩ := qq _ hs1
      have hTs := hT _ hs1
      obtain ⟨t0, tz, t2, t3, -⟩ := id hTs
      have hkz : ¬ kA ts e.1.1 = 0 := by
        rcases hp with z | z | z | z
        · intro y; exact z (fIn_2 l hl _ hk31 (by omega))
        · omega
        · omega
        · omega
      have st1 := sStep_y hE ho.1 h0 hkz
      have a1 : (sStep ts e.1).1 = e.1.1 + 1 := by rw [st1]
      have lst : ∀ (o a c : Nat), opc c = o → arc c = a → mPart ts l (r + 1) e = (sStep ts e.1, (eEmit c e).2) → ∀ (h1 : ax_H), But h h1 exP → h1.2.2 145 = some (eM th ta si (nI e.1.1) (nI e.1.2) (nI (t + e.2.1.length + 1)) nm (nI l) ask nw os sw bc bm gg) → h1.2.2 152 = some (eI 2200 (upd O (1100 + (t + e.2.1.length)) (nI o))) → h1.2.2 153 = some (eI 2200 (upd A (1100 + (t + e.2.1.length)) (nI a))) → ∀ x y, X G ((d + 5 * r + 5) + 2) mX12_takePart 165 [some (.ref 145), some (.int (nI dep)), some (.int x), some (.int y)] [] h1 Q := by
        intro o a c eo ea em h1 hb1 e145 e152 e153 x y
        rw [em, eEmit_e (by omega)] at hq
        dsimp only at hq
        refine ax_aload_n dX12_takePart_165 rfl ?_
        refine ax_dup dX12_takePart_166 rfl ?_
        refine ax_getf dX12_takePart_167 flX12_153 e145 rfl ?_
        refine ax_iconst dX12_takePart_170 (v := nI 1) (by decide) ?_
        refine ax_iadd dX12_takePart_171 ?_
        refine ax_putf dX12_takePart_172 flX12_153 e145 (Nat.le_of_ble_eq_true rfl) (fun _ => ⟨rfl, rfl⟩) ?_
        rw [nI_add e.1.1 1, ← a1, show nI e.1.2 = nI (sStep ts e.1).2 from by rw [st1, h0]]
        refine ax_return dX12_takePart_175 rfl (hq _ _ _ (hb1.wr (Or.inl rfl)) ?_ ((ax_wr_ne (by decide)).trans e152) ((ax_wr_ne (by decide)).trans e153) ?_)
        · rw [List.length_append, List.length_singleton, ← Nat.add_assoc]
          exact ax_wr_eq
        · rw [← eo, ← ea]
          exact hX.emit
      by_cases h14 : kA ts e.1.1 = 14
      · have hf : fIn l (kA ts e.1.1) = 0 := fIn_2 l hl _ hk31 (by omega)
        have hc : e.1.2 = 0 ∧ kA ts e.1.1 = kwK 13 := ⟨h0, h14⟩
        rw [mPart_c h0 hf h14] at hq
        have gr := gg' (sStep ts e.1, e.2) ⟨sStep_ok ho.1, ho.2⟩
        have gr1 := gr.1
        have gr2 := gr.2.1
        dsimp only at gr1 gr2
        rw [a1] at gr1 gr2
        have o3 := og (sStep ts e.1, e.2) ⟨sStep_ok ho.1, ho.2⟩
        have o31 := o3.1.1
        refine ax_aload_n dX12_takePart_84 rfl ?_
        refine ax_bipush dX12_takePart_85 (v := nI 13) (by decide) ?_
        refine ax_cV dX12_takePart_87 mmX12_hasWord lkX12_169 miX12_hasWord msX12_hasWord (ax_recv_of e145 rfl) rfl rfl (Nat.le_of_ble_eq_true rfl) (Nat.le_of_ble_eq_true rfl) rfl rfl (k_hasWord (w := 13) (d := d + 5 * r + 5) (by omega) ht ho.1 hT e145 hP (fun h2 hb2 e145 => ⟨_, rfl, ?_⟩))
        rw [b1_t hc]
        rw [(sIf_y h0 hc hE ho.1 hkz).1, (sIf_y h0 hc hE ho.1 hkz).2] at e145
        have e152 := (hb2.2.2 152 (by decide)).trans e152
        have e153 := (hb2.2.2 153 (by decide)).trans e153
        have hb2 := hb2.wide (P' := exP) (fun j z => Or.inl z)
        refine ax_if_eqF 109 dX12_takePart_90 (by decide) (by decide) ?_
        refine ax_aload_n dX12_takePart_93 rfl ?_
        refine ax_iload_n dX12_takePart_94 rfl ?_
        refine ax_iconst dX12_takePart_95 (v := nI 1) (by decide) ?_
        refine ax_iadd dX12_takePart_96 ?_
        rw [nI_add dep 1]
        have i1 := ih (d + 4) (dep + 1) (by omega)
        rw [show d + 4 + 5 * r + 2 = d + 5 * r + 5 + 1 by omega] at i1
        refine ax_cV dX12_takePart_97 mmX12_takePart lkX12_253 miX12_takePart msX12_takePart (ax_recv_of e145 rfl) rfl rfl (Nat.le_of_ble_eq_true rfl) (Nat.le_of_ble_eq_true rfl) rfl rfl (i1 (sStep ts e.1, e.2) h2 _ O A Os As bs ⟨sStep_ok ho.1, ho.2⟩ (by dsimp only; omega) e145 (hP.k5 hb2) e152 e153 hX (fun h3 O3 A3 hb3 e145 e152 e153 hX3 => ⟨_, rfl, ?_⟩))
        generalize mPart ts l r (sStep ts e.1, e.2) = e3 at hq o3 o31 gr1 gr2 e145 hX3
        have hb3 := hb2.tr hb3
        rw [eEmit_e (by omega)] at hq
        dsimp only at hq
        refine ax_aload_n dX12_takePart_100 rfl ?_
        refine ax_iconst dX12_takePart_101 (v := nI 3) (by decide) ?_
        refine ax_iconst dX12_takePart_102 (v := nI 0) (by decide) ?_
        refine ax_cV dX12_takePart_103 mmX12_emit lkX12_237 miX12_emit msX12_emit (ax_recv_of e145 rfl) rfl rfl (Nat.le_of_ble_eq_true rfl) (Nat.le_of_ble_eq_true rfl) rfl rfl (k_emit (o := 3) (a := 0) (k := t + e3.2.1.length) (d := d + 5 * r + 5 + 1) (by omega) e145 e152 e153 (fun h4 hb4 e145 e152 e153 => ⟨_, rfl, ?_⟩))
        refine ax_goto 175 dX12_takePart_106 (by decide) ?_
        refine ax_return dX12_takePart_175 rfl (hq h4 _ _ (hb3.tr hb4) ?_ e152 e153 (hX3.emit (c := 8)))
        rw [e145, List.length_append, List.length_singleton, Nat.add_assoc]
      · have hc : ¬ (e.1.2 = 0 ∧ kA ts e.1.1 = kwK 13) := fun z => h14 z.2
        refine ax_aload_n dX12_takePart_84 rfl ?_
        refine ax_bipush dX12_takePart_85 (v := nI 13) (by decide) ?_
        refine ax_cV dX12_takePart_87 mmX12_hasWord lkX12_169 miX12_hasWord msX12_hasWord (ax_recv_of e145 rfl) rfl rfl (Nat.le_of_ble_eq_true rfl) (Nat.le_of_ble_eq_true rfl) rfl rfl (k_hasWord (w := 13) (d := d + 5 * r + 5) (by omega) ht ho.1 hT e145 hP (fun h2 hb2 e145 => ⟨_, rfl, ?_⟩))
        rw [b1_f hc]
        rw [sIf_n hc] at e145
        have e152 := (hb2.2.2 152 (by decide)).trans e152
        have e153 := (hb2.2.2 153 (by decide)).trans e153
        have hb2 := hb2.wide (P' := exP) (fun j z => Or.inl z)
        refine ax_if_eqT 109 dX12_takePart_90 (by decide) rfl ?_
        by_cases h4 : kA ts e.1.1 = 4
        · have hf : fIn l (kA ts e.1.1) = 0 := fIn_2 l hl _ hk31 (by omega)
          have hc : e.1.2 = 0 ∧ kA ts e.1.1 = 4 + 0 := ⟨h0, h4⟩
          rw [mPart_d h0 hf h4] at hq
          have o3 := joinAll_ok og (sStep ts e.1, e.2) ⟨sStep_ok ho.1, ho.2⟩
          have i1 := ih d (dep + 1) (by omega)
          have i2 := k_joinAll (dd := d + 5 * r + 1) ht3 ht hE hT og gg' i1
          rw [show d + 5 * r + 1 + 5 = d + 5 * r + 5 + 1 by omega] at i2
          refine ax_aload_n dX12_takePart_109 rfl ?_
          refine ax_bipush dX12_takePart_110 (v := nI 40) (by decide) ?_
          refine ax_cV dX12_takePart_112 mmX12_hasSign lkX12_247 miX12_hasSign msX12_hasSign (ax_recv_of e145 rfl) rfl rfl (Nat.le_of_ble_eq_true rfl) (Nat.le_of_ble_eq_true rfl) rfl rfl (k_hasSign (q := 0) (d := d + 5 * r + 5) (by omega) ht ho.1 hT e145 (hP.k5 hb2) (fun h3 hb3 e145 => ⟨_, rfl, ?_⟩))
          rw [b1_t hc]
          rw [(sIf_y h0 hc hE ho.1 hkz).1, (sIf_y h0 hc hE ho.1 hkz).2] at e145
          have e152 := (hb3.2.2 152 (by decide)).trans e152
          have e153 := (hb3.2.2 153 (by decide)).trans e153
          have hb3 := hb2.tr (hb3.wide (P' := exP) (fun j z => Or.inl z))
          refine ax_if_eqF 134 dX12_takePart_115 (by decide) (by decide) ?_
          refine ax_aload_n dX12_takePart_118 rfl ?_
          refine ax_iload_n dX12_takePart_119 rfl ?_
          refine ax_iconst dX12_takePart_120 (v := nI 1) (by decide) ?_
          refine ax_iadd dX12_takePart_121 ?_
          rw [nI_add dep 1]
          refine ax_cV dX12_takePart_122 mmX12_all lkX12_234 miX12_all msX12_all (ax_recv_of e145 rfl) rfl rfl (Nat.le_of_ble_eq_true rfl) (Nat.le_of_ble_eq_true rfl) rfl rfl (i2 (sStep ts e.1, e.2) h3 _ O A Os As bs ⟨sStep_ok ho.1, ho.2⟩ (by dsimp only; omega) e145 (hP.k5 hb3) e152 e153 hX (fun h4 O4 A4 hb4 e145 e152 e153 hX4 => ⟨_, rfl, ?_⟩))
          generalize joinAll ts (mPart ts l r) (sStep ts e.1, e.2) = e3 at hq o3 e145 hX4
          have hb4 := hb3.tr hb4
          refine ax_aload_n dX12_takePart_125 rfl ?_
          refine ax_bipush dX12_takePart_126 (v := nI 41) (by decide) ?_
          refine ax_cV dX12_takePart_128 mmX12_takeSign lkX12_191 miX12_takeSign msX12_takeSign (ax_recv_of e145 rfl) rfl rfl (Nat.le_of_ble_eq_true rfl) (Nat.le_of_ble_eq_true rfl) rfl rfl (k_takeSign (q := 1) (d := d + 5 * r + 5) (by omega) ht hE o3.1 hT e145 (hP.k5 hb4) (fun h5 hb5 e145 => ⟨_, rfl, ?_⟩))
          refine ax_goto 175 dX12_takePart_131 (by decide) ?_
          exact ax_return dX12_takePart_175 rfl (hq h5 O4 A4 (hb4.tr (hb5.wide (fun j z => Or.inl z))) e145 ((hb5.2.2 152 (by decide)).trans e152) ((hb5.2.2 153 (by decide)).trans e153) hX4)
        · have hc : ¬ (e.1.2 = 0 ∧ kA ts e.1.1 = 4 + 0) := fun z => h4 z.2
          refine ax_aload_n dX12_takePart_109 rfl ?_
          refine ax_bipush dX12_takePart_110 (v := nI 40) (by decide) ?_
          refine ax_cV dX12_takePart_112 mmX12_hasSign lkX12_247 miX12_hasSign msX12_hasSign (ax_recv_of e145 rfl) rfl rfl (Nat.le_of_ble_eq_true rfl) (Nat.le_of_ble_eq_true rfl) rfl rfl (k_hasSign (q := 0) (d := d + 5 * r + 5) (by omega) ht ho.1 hT e145 (hP.k5 hb2) (fun h3 hb3 e145 => ⟨_, rfl, ?_⟩))
          rw [b1_f hc]
          rw [sIf_n hc] at e145
          have e152 := (hb3.2.2 152 (by decide)).trans e152
          have e153 := (hb3.2.2 153 (by decide)).trans e153
          have e149 := (hb3.2.2 149 (by decide)).trans ((hb2.2.2 149 (by unfold exP; omega)).trans e149)
          have hb3 := hb2.tr (hb3.wide (P' := exP) (fun j z => Or.inl z))
          refine ax_if_eqT 134 dX12_takePart_115 (by decide) rfl ?_
          by_cases h2 : kA ts e.1.1 = 2
          · have hf : fIn l (kA ts e.1.1) = 0 := fIn_2 l hl _ hk31 (by omega)
            have s2 := t2.mpr h2
            rw [if_pos s2]
            refine ax_aload_n dX12_takePart_134 rfl ?_
            refine ax_iload_n dX12_takePart_135 rfl ?_
            refine ax_if_eqF 143 dX12_takePart_136 (by decide) (by decide) ?_
            refine ax_iconst dX12_takePart_139 (v := nI 1) (by decide) ?_
            refine ax_goto 144 dX12_takePart_140 (by decide) ?_
            refine ax_iload_n dX12_takePart_144 rfl ?_
            refine ax_if_eqF 161 dX12_takePart_145 (by decide) (by decide) ?_
            refine ax_aload_n dX12_takePart_148 rfl ?_
            refine ax_getf dX12_takePart_149 flX12_30 e145 rfl ?_
            refine ax_aload_n dX12_takePart_152 rfl ?_
            refine ax_getf dX12_takePart_153 flX12_153 e145 rfl ?_
            refine ax_lald dX12_takePart_156 e149 (ax_ix_nI (j := e.1.1) (by omega) (by decide)) ?_
            rw [r3 (by omega)]
            refine ax_l2i dX12_takePart_157 ?_
            rw [show (lN (Va e.1.1)).toInt32 = nI (Va e.1.1) from by
              have := t3 s2
              rw [← nI_l (by omega)]; exact Int32.toInt32_toInt64 _]
            refine ax_goto 162 dX12_takePart_158 (by decide) ?_
            refine ax_cV dX12_takePart_162 mmX12_emit lkX12_237 miX12_emit msX12_emit (ax_recv_of e145 rfl) rfl rfl (Nat.le_of_ble_eq_true rfl) (Nat.le_of_ble_eq_true rfl) rfl rfl (k_emit (o := 1) (a := Va e.1.1) (k := t + e.2.1.length) (d := d + 5 * r + 5 + 1) (by omega) e145 e152 e153 (fun h4 hb4 e145 e152 e153 => ⟨_, rfl, ?_⟩))
            refine lst 1 (Va e.1.1) (16 + nA ts e.1.1) ?_ ?_ (mPart_b h0 hf h2) h4 (hb3.tr hb4) e145 e152 e153 _ _
            · unfold opc; rw [if_neg (by omega), if_pos (by omega)]
            · unfold arc; rw [if_neg (by omega), if_pos (by omega), nA_va hTs s2, Nat.add_sub_cancel_left]
          · have s2 : ¬ So e.1.1 = 2 := fun z => h2 (t2.mp z)
            have hf : ¬ fIn l (kA ts e.1.1) = 0 := by
              rcases hp with z | z | z | z
              · exact z
              · exact absurd z h2
              · exact absurd z h14
              · exact absurd z h4
            obtain ⟨z1, z2⟩ := (fcM_k hl hk31).2 hf
            rw [if_neg s2, z1]
            refine ax_aload_n dX12_takePart_134 rfl ?_
            refine ax_iload_n dX12_takePart_135 rfl ?_
            refine ax_if_eqT 143 dX12_takePart_136 (by decide) rfl ?_
            refine ax_iconst dX12_takePart_143 (v := nI 2) (by decide) ?_
            refine ax_iload_n dX12_takePart_144 rfl ?_
            refine ax_if_eqT 161 dX12_takePart_145 (by decide) rfl ?_
            refine ax_iload_n dX12_takePart_161 rfl ?_
            refine ax_cV dX12_takePart_162 mmX12_emit lkX12_237 miX12_emit msX12_emit (ax_recv_of e145 rfl) rfl rfl (Nat.le_of_ble_eq_true rfl) (Nat.le_of_ble_eq_true rfl) rfl rfl (k_emit (o := 2) (a := stp (kA ts e.1.1)) (k := t + e.2.1.length) (d := d + 5 * r + 5 + 1) (by omega) e145 e152 e153 (fun h4 hb4 e145 e152 e153 => ⟨_, rfl, ?_⟩))
            refine lst 2 (stp (kA ts e.1.1)) (stp (kA ts e.1.1)) ?_ ?_ (mPart_a h0 hf) h4 (hb3.tr hb4) e145 e152 e153 _ _
            · unfold opc; rw [if_pos z2]
            · unfold arc; rw [if_pos z2]
    · rw [mPart_n h0 hp] at hq
      exact hq h' O A (hb.wide (fun j z => Or.inl z)) e' ((hb.2.2 152 (by decide)).trans e152) ((hb.2.2 153 (by decide)).trans e153) hX
    · rw [mPart_z h0] at hq
      exact hq h O A But.rf e145 e152 e153 hX
/-- a whole expression -/
theorem k_expr (ht3 : t ≤ 3) (hl : l < 3) (ht : tsOK ts) (hE : tsE ts) (hT : TkQ ts So Va) : DoesM th ta si nm ask nw os sw bc bm gg G (d + 31) mX12_all (ax_in 3 [.ref 145, .int (nI 0)]) ts So Va l t (joinAll ts (mPart ts l 5)) := k_joinAll (dd := d + 26) ht3 ht hE hT (mPart_ok ht 5) (mPart_gr ht hE 5) (k_part ht3 hl ht hE hT 5 d 0 rfl)
end MPU
