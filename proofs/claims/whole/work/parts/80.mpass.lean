section MP
variable {G : ax_G} {d : Nat} {h : ax_H} {Q : ax_O → ax_H → Prop} {N : Nt} {σ : Sd}
variable {th ta si pt fa co nm rd ask nw os sw bc bm : Int32} {gg : Int64} {F S O A : Nat → Int32}
/-- the roads' part of a year: roads below r are done, of road r the stuffs below s -/
def rdI (S S1 : Nat → Int32) (N : Nt) (σ : Sd) (swo : Option Nat) (y : YA) (r r' s : Nat) : Prop :=
  (∀ q, q < nR N → S (1 + q) = nI (if q < r' then mdV N σ swo (lfN σ y) y.1 q else σ 1 q)) ∧
  (∀ q z, q < 10 → z < 5 → S (11 + (5 * q + z)) = nI (if (q < r ∨ (q = r ∧ z < s)) ∧ q < nR N ∧ z < nS N then σ 2 (5 * q + z) + lwN σ y swo q z else σ 2 (5 * q + z))) ∧
  (∀ z, z < nS N → S (123 + z) = nI (σ 4 z + sm (fun q => lfN σ y (5 * q + z)) (if z < s then r + 1 else r))) ∧
  (∀ j, (j = 0 ∨ (61 ≤ j ∧ j < 123) ∨ 128 ≤ j) → S j = S1 j)
theorem k_roadsEnd {y : YA} {swo : Option Nat} {S1 Hf : Nat → Int32} (hsw : sw = on swo) (hsw2 : ∀ j, swo = some j → j < 100) (hN : nOK N) (hF : FnB F N) (hS : Sb S1 N σ) (h4 : ∀ z, z < nS N → S1 (123 + z) = nI (σ 4 z)) (hM : MC h F S1 O A) (a164 : isA h 164 50 50 (lfN σ y)) (e166 : h.2.2 166 = some (eI 10 Hf)) (hH : ∀ r, r < nR N → Hf r = nI (mdV N σ swo (lfN σ y) y.1 r)) (e145 : h.2.2 145 = some (eM th ta si pt fa co nm rd ask nw os sw bc bm gg))
    (hq : ∀ h' S' o2 o3, But h h' (fun j => j = 159) → MC h' F S' O A → rdI S' S1 N σ swo y (nR N) (nR N) 0 → X G (d + 11) mX12_passes 198 [some (.ref 145), some (.int (nI (nR N))), o2, o3] [] h' Q) : ∀ (o1 o2 o3 : Option Value), X G (d + 11) mX12_passes 98 [some (.ref 145), o1, o2, o3] [] h Q := by
  have hR := hN.2.2.1
  have hS5 := hN.1
  have f0 := hF.1
  have f2 := hF.2.2.1
  obtain ⟨c0, c1, c2, c3⟩ := id hS
  obtain ⟨f164, e164, q164⟩ := id a164
  obtain ⟨e151, e152, e153, e159, a157, a158⟩ := id hM
  have e145h := e145
  have e164h := e164
  have outer : ∀ (m r : Nat) (S : Nat → Int32) (o2 o3 : Option Value) (h1 : ax_H), r + m = nR N → But h h1 (fun j => j = 159) → MC h1 F S O A → rdI S S1 N σ swo y r r 0 → X G (d + 11) mX12_passes 100 [some (.ref 145), some (.int (nI r)), o2, o3] [] h1 Q := by
    intro m
    induction m with
    | zero =>
      intro r S o2 o3 h1 hr hb hM1 hI
      obtain rfl : r = nR N := by omega
      have e145 := (hb.2.2 145 (by omega)).trans e145h
      refine ax_iload_n dX12_passes_100 rfl ?_
      refine ax_aload_n dX12_passes_101 rfl ?_
      refine ax_cV dX12_passes_102 mmX12_roads lkX12_194 miX12_roads msX12_roads (ax_recv_of e145 rfl) rfl rfl (Nat.le_of_ble_eq_true rfl) (Nat.le_of_ble_eq_true rfl) rfl rfl (k_roads e145 hM1.1 ⟨_, rfl, ?_⟩)
      rw [f2]
      refine ax_icmp_geT 198 dX12_passes_105 (by decide) (Int32.le_refl _) ?_
      exact hq h1 S o2 o3 hb hM1 hI
    | succ m ih =>
      intro r S o2 o3 h1 hr hb hM1 hI
      have hrR : r < nR N := by omega
      have e145 := (hb.2.2 145 (by omega)).trans e145h
      have e166 := (hb.2.2 166 (by omega)).trans e166
      have inner : ∀ (m s : Nat) (S : Nat → Int32) (o3 : Option Value) (h1 : ax_H), s + m = nS N → But h h1 (fun j => j = 159) → MC h1 F S O A → rdI S S1 N σ swo y r (r + 1) s → X G (d + 11) mX12_passes 124 [some (.ref 145), some (.int (nI r)), some (.int (nI s)), o3] [] h1 Q := by
        intro m2
        induction m2 with
        | zero =>
          intro s S o3 h1 hs hb hM1 hI
          obtain rfl : s = nS N := by omega
          have e145 := (hb.2.2 145 (by omega)).trans e145h
          refine ax_iload_n dX12_passes_124 rfl ?_
          refine ax_aload_n dX12_passes_125 rfl ?_
          refine ax_cV dX12_passes_126 mmX12_stuffs lkX12_273 miX12_stuffs msX12_stuffs (ax_recv_of e145 rfl) rfl rfl (Nat.le_of_ble_eq_true rfl) (Nat.le_of_ble_eq_true rfl) rfl rfl (k_stuffs e145 hM1.1 ⟨_, rfl, ?_⟩)
          rw [f0]
          refine ax_icmp_geT 192 dX12_passes_129 (by decide) (Int32.le_refl _) ?_
          refine ax_iinc dX12_passes_192 rfl (ax_inc 1) ?_
          refine ax_goto 100 dX12_passes_195 (by decide) ?_
          rw [nI_add r 1]
          refine ih (r + 1) S _ _ h1 (by omega) hb hM1 ?_
          obtain ⟨i1, i2, i3, i4⟩ := hI
          refine ⟨i1, fun q z hq hz => ?_, fun z hz => ?_, i4⟩
          · rw [i2 q z hq hz]
            congr 1
            by_cases hc : (q < r ∨ (q = r ∧ z < nS N)) ∧ q < nR N ∧ z < nS N
            · rw [if_pos hc, if_pos ⟨Or.inl (by omega), hc.2⟩]
            · rw [if_neg hc, if_neg (by omega)]
          · rw [i3 z hz, if_pos hz, if_neg (Nat.not_lt_zero _)]
        | succ m2 ih2 =>
          intro s S o3 h1 hs hb hM1 hI
          have hsS : s < nS N := by omega
          have e145 := (hb.2.2 145 (by omega)).trans e145h
          have e164 := (hb.2.2 164 (by omega)).trans e164h
          obtain ⟨m151, m152, m153, e159, a157, a158⟩ := id hM1
          obtain ⟨i1, i2, i3, i4⟩ := hI
          have p3 := i3 s hsS
          rw [if_neg (Nat.lt_irrefl s)] at p3
          have p2 := i2 r s (by omega) (by omega)
          rw [if_neg (by omega)] at p2
          have fin : ∀ (x : Int32), x = nI (lwN σ y swo r s) → X G (d + 11) mX12_passes 184 [some (.ref 145), some (.int (nI r)), some (.int (nI s)), some (.int (nI (5 * r + s)))] [.int x, .int (nI (σ 2 (5 * r + s))), .int (nI (11 + (5 * r + s))), .ref 159] (ax_wr h1 159 (eI 12840 (upd S (123 + s) (nI (σ 4 s + sm (fun q => lfN σ y (5 * q + s)) r + lfN σ y (5 * r + s)))))) Q := by
            intro x hx
            refine ax_iadd dX12_passes_184 ?_
            rw [hx, nI_add (σ 2 (5 * r + s)) (lwN σ y swo r s)]
            refine ax_iast dX12_passes_185 ax_wr_eq (ax_ix_nI (j := 11 + (5 * r + s)) (by omega) (by decide)) ?_
            rw [ax_wr_wr]
            refine ax_iinc dX12_passes_186 rfl (ax_inc 1) ?_
            refine ax_goto 124 dX12_passes_189 (by decide) ?_
            rw [nI_add s 1]
            refine ih2 (s + 1) _ _ _ (by omega) (hb.wr rfl) ⟨(ax_wr_ne (by decide)).trans m151, (ax_wr_ne (by decide)).trans m152, (ax_wr_ne (by decide)).trans m153, ax_wr_eq, a157.kept (ax_wr_ne (by decide)), a158.kept (ax_wr_ne (by decide))⟩ ⟨fun q hq => ?_, fun q z hq hz => ?_, fun z hz => ?_, fun j hj => ?_⟩
            · rw [pk_un (by omega), pk_un (by omega)]
              exact i1 q hq
            · by_cases hc : q = r ∧ z = s
              · obtain ⟨rfl, rfl⟩ := hc
                rw [pk_us, if_pos ⟨Or.inr ⟨rfl, by omega⟩, hrR, hsS⟩]
              · rw [pk_un (by omega), pk_un (by omega), i2 q z hq hz]
                congr 1
                by_cases h1 : (q < r ∨ (q = r ∧ z < s)) ∧ q < nR N ∧ z < nS N
                · rw [if_pos h1, if_pos (by omega)]
                · rw [if_neg h1, if_neg (by omega)]
            · rw [pk_un (by omega)]
              by_cases hc : z = s
              · subst hc
                rw [pk_us, if_pos (by omega), Nat.add_assoc]
                rfl
              · rw [pk_un (by omega), i3 z hz]
                by_cases h1 : z < s
                · rw [if_pos h1, if_pos (by omega)]
                · rw [if_neg h1, if_neg (by omega)]
            · rw [pk_un (by omega), pk_un (by omega)]
              exact i4 j hj
          refine ax_iload_n dX12_passes_124 rfl ?_
          refine ax_aload_n dX12_passes_125 rfl ?_
          refine ax_cV dX12_passes_126 mmX12_stuffs lkX12_273 miX12_stuffs msX12_stuffs (ax_recv_of e145 rfl) rfl rfl (Nat.le_of_ble_eq_true rfl) (Nat.le_of_ble_eq_true rfl) rfl rfl (k_stuffs e145 m151 ⟨_, rfl, ?_⟩)
          rw [f0]
          refine ax_icmp_geF 192 dX12_passes_129 (by decide) (nI_ge (by omega) (by omega)) ?_
          refine ax_iconst dX12_passes_132 (v := nI 5) (by decide) ?_
          refine ax_iload_n dX12_passes_133 rfl ?_
          refine ax_imul dX12_passes_134 ?_
          refine ax_iload_n dX12_passes_135 rfl ?_
          refine ax_iadd dX12_passes_136 ?_
          rw [pk_mul 5 r, nI_add (5 * r) s]
          refine ax_istore_n dX12_passes_137 (Nat.le_of_ble_eq_true rfl) ?_
          refine ax_aload_n dX12_passes_138 rfl ?_
          refine ax_getf dX12_passes_139 flX12_99 e145 rfl ?_
          refine ax_bipush dX12_passes_142 (v := nI 123) (by decide) ?_
          refine ax_iload_n dX12_passes_144 rfl ?_
          refine ax_iadd dX12_passes_145 ?_
          rw [nI_add 123 s]
          refine ax_dup2 dX12_passes_146 rfl rfl ?_
          refine ax_iald dX12_passes_147 e159 (ax_ix_nI (j := 123 + s) (by omega) (by decide)) ?_
          rw [p3]
          refine ax_aload_n dX12_passes_148 rfl ?_
          refine ax_getf dX12_passes_149 flX12_121 e145 rfl ?_
          refine ax_iload_n dX12_passes_152 rfl ?_
          refine ax_iald dX12_passes_153 e164 (ax_ix_nI (j := 5 * r + s) (by omega) (by decide)) ?_
          rw [q164 (5 * r + s) (by omega)]
          refine ax_iadd dX12_passes_154 ?_
          rw [nI_add (σ 4 s + sm (fun q => lfN σ y (5 * q + s)) r) (lfN σ y (5 * r + s))]
          refine ax_iast dX12_passes_155 e159 (ax_ix_nI (j := 123 + s) (by omega) (by decide)) ?_
          refine ax_aload_n dX12_passes_156 rfl ?_
          refine ax_getf dX12_passes_157 flX12_99 ((ax_wr_ne (by decide)).trans (e145)) rfl ?_
          refine ax_bipush dX12_passes_160 (v := nI 11) (by decide) ?_
          refine ax_iload_n dX12_passes_162 rfl ?_
          refine ax_iadd dX12_passes_163 ?_
          rw [nI_add 11 (5 * r + s)]
          refine ax_dup2 dX12_passes_164 rfl rfl ?_
          refine ax_iald dX12_passes_165 ax_wr_eq (ax_ix_nI (j := 11 + (5 * r + s)) (by omega) (by decide)) ?_
          rw [show upd S (123 + s) (nI (σ 4 s + sm (fun q => lfN σ y (5 * q + s)) r + lfN σ y (5 * r + s))) (11 + (5 * r + s)) = nI (σ 2 (5 * r + s)) from (pk_un (by omega)).trans p2]
          by_cases hc : swo = some r
          · refine ax_iload_n dX12_passes_166 rfl ?_
            refine ax_aload_n dX12_passes_167 rfl ?_
            refine ax_getf dX12_passes_168 flX12_109 ((ax_wr_ne (by decide)).trans (e145)) rfl ?_
            refine ax_icmp_neF 178 dX12_passes_171 (by decide) (by rw [hsw]; exact (on_eq hsw2 (by omega)).mpr hc) ?_
            refine ax_iconst dX12_passes_174 (v := nI 0) (by decide) ?_
            refine ax_goto 184 dX12_passes_175 (by decide) ?_
            exact fin 0 (by unfold lwN; rw [if_pos hc]; rfl)
          · refine ax_iload_n dX12_passes_166 rfl ?_
            refine ax_aload_n dX12_passes_167 rfl ?_
            refine ax_getf dX12_passes_168 flX12_109 ((ax_wr_ne (by decide)).trans (e145)) rfl ?_
            refine ax_icmp_neT 178 dX12_passes_171 (by decide) (fun q => hc ((on_eq hsw2 (by omega)).mp (by rw [← hsw]; exact q))) ?_
            refine ax_aload_n dX12_passes_178 rfl ?_
            refine ax_getf dX12_passes_179 flX12_121 ((ax_wr_ne (by decide)).trans (e145)) rfl ?_
            refine ax_iload_n dX12_passes_182 rfl ?_
            refine ax_iald dX12_passes_183 ((ax_wr_ne (by decide)).trans (e164)) (ax_ix_nI (j := 5 * r + s) (by omega) (by decide)) ?_
            rw [q164 (5 * r + s) (by omega)]
            exact fin _ (by unfold lwN; rw [if_neg hc])
      obtain ⟨m151, m152, m153, e159, a157, a158⟩ := id hM1
      refine ax_iload_n dX12_passes_100 rfl ?_
      refine ax_aload_n dX12_passes_101 rfl ?_
      refine ax_cV dX12_passes_102 mmX12_roads lkX12_194 miX12_roads msX12_roads (ax_recv_of e145 rfl) rfl rfl (Nat.le_of_ble_eq_true rfl) (Nat.le_of_ble_eq_true rfl) rfl rfl (k_roads e145 m151 ⟨_, rfl, ?_⟩)
      rw [f2]
      refine ax_icmp_geF 198 dX12_passes_105 (by decide) (nI_ge (by omega) (by omega)) ?_
      refine ax_aload_n dX12_passes_108 rfl ?_
      refine ax_getf dX12_passes_109 flX12_99 e145 rfl ?_
      refine ax_iconst dX12_passes_112 (v := nI 1) (by decide) ?_
      refine ax_iload_n dX12_passes_113 rfl ?_
      refine ax_iadd dX12_passes_114 ?_
      rw [nI_add 1 r]
      refine ax_aload_n dX12_passes_115 rfl ?_
      refine ax_getf dX12_passes_116 flX12_127 e145 rfl ?_
      refine ax_iload_n dX12_passes_119 rfl ?_
      refine ax_iald dX12_passes_120 e166 (ax_ix_nI (j := r) (by omega) (by decide)) ?_
      rw [hH r hrR]
      refine ax_iast dX12_passes_121 e159 (ax_ix_nI (j := 1 + r) (by omega) (by decide)) ?_
      refine ax_iconst dX12_passes_122 (v := nI 0) (by decide) ?_
      refine ax_istore_n dX12_passes_123 (Nat.le_of_ble_eq_true rfl) ?_
      refine inner (nS N) 0 _ _ _ (by omega) (hb.wr rfl) ⟨(ax_wr_ne (by decide)).trans m151, (ax_wr_ne (by decide)).trans m152, (ax_wr_ne (by decide)).trans m153, ax_wr_eq, a157.kept (ax_wr_ne (by decide)), a158.kept (ax_wr_ne (by decide))⟩ ?_
      obtain ⟨i1, i2, i3, i4⟩ := hI
      refine ⟨fun q hq => ?_, fun q z hq hz => ?_, fun z hz => ?_, fun j hj => ?_⟩
      · by_cases hc : q = r
        · rw [hc, pk_us, if_pos (by omega)]
        · rw [pk_un (by omega), i1 q hq]
          by_cases h1 : q < r
          · rw [if_pos h1, if_pos (by omega)]
          · rw [if_neg h1, if_neg (by omega)]
      · rw [pk_un (by omega)]
        exact i2 q z hq hz
      · rw [pk_un (by omega)]
        exact i3 z hz
      · rw [pk_un (by omega)]
        exact i4 j hj
  intro o1 o2 o3
  refine ax_iconst dX12_passes_98 (v := nI 0) (by decide) ?_
  refine ax_istore_n dX12_passes_99 (Nat.le_of_ble_eq_true rfl) ?_
  refine outer (nR N) 0 S1 _ _ h (by omega) But.rf hM ⟨fun q hq => ?_, fun q z hq hz => ?_, fun z hz => ?_, fun j _ => rfl⟩
  · rw [if_neg (Nat.not_lt_zero _)]; exact c1 q hq
  · rw [if_neg (by omega)]; exact c2 (5 * q + z) (by omega)
  · rw [if_neg (Nat.not_lt_zero _)]; exact h4 z hz
end MP
