section MY
variable {G : ax_G} {d : Nat} {h : ax_H} {Q : ax_O → ax_H → Prop} {N : Nt} {σ : Sd}
variable {th ta si pt fa co nm rd ask nw os sw bc bm : Int32} {gg : Int64} {F S O A : Nat → Int32}
/-- the end of a year: its layer, if one is kept, and the next year's number -/
def lyI (S' S : Nat → Int32) (y0 : Nat) (ask : Int32) (lf : Nat → Nat) : Prop :=
  S' 0 = nI (y0 + 1) ∧ (∀ j, j ≠ 0 → j < 133 → S' j = S j) ∧ (∀ j, 133 ≤ j → (¬ (ask = 0 ∧ y0 < 40) ∨ j < 133 + 50 * y0 ∨ 133 + 50 * y0 + 50 ≤ j) → S' j = S j) ∧ (ask = 0 → y0 < 40 → ∀ c, c < 50 → S' (133 + 50 * y0 + c) = nI (lf c))
theorem k_layEnd {lf : Nat → Nat} {y0 : Nat} (hy : y0 < 2 ^ 30) (h0 : S 0 = nI y0) (hM : MC h F S O A) (a164 : isA h 164 50 50 lf) (e145 : h.2.2 145 = some (eM th ta si pt fa co nm rd ask nw os sw bc bm gg))
    (hq : ∀ h' S', But h h' (fun j => j = 159) → MC h' F S' O A → lyI S' S y0 ask lf → Q (.inl none) h') : ∀ (o1 o2 o3 : Option Value), X G (d + 11) mX12_passes 198 [some (.ref 145), o1, o2, o3] [] h Q := by
  obtain ⟨f164, e164, q164⟩ := id a164
  have e145h := e145
  have e164h := e164
  have fin : ∀ (S1 : Nat → Int32) (h1 : ax_H) (o1 o2 o3 : Option Value), But h h1 (fun j => j = 159) → MC h1 F S1 O A → S1 0 = nI y0 → lyI (upd S1 0 (nI (y0 + 1))) S y0 ask lf → X G (d + 11) mX12_passes 256 [some (.ref 145), o1, o2, o3] [] h1 Q := by
    intro S1 h1 o1 o2 o3 hb hM1 hz hI
    have e145 := (hb.2.2 145 (by omega)).trans e145h
    obtain ⟨m151, m152, m153, e159, a157, a158⟩ := id hM1
    refine ax_aload_n dX12_passes_256 rfl ?_
    refine ax_getf dX12_passes_257 flX12_99 e145 rfl ?_
    refine ax_iconst dX12_passes_260 (v := nI 0) (by decide) ?_
    refine ax_dup2 dX12_passes_261 rfl rfl ?_
    refine ax_iald dX12_passes_262 e159 (ax_ix_nI (j := 0) (by decide) (by decide)) ?_
    rw [hz]
    refine ax_iconst dX12_passes_263 (v := nI 1) (by decide) ?_
    refine ax_iadd dX12_passes_264 ?_
    rw [nI_add y0 1]
    refine ax_iast dX12_passes_265 e159 (ax_ix_nI (j := 0) (by decide) (by decide)) ?_
    exact ax_return dX12_passes_266 rfl (hq _ _ (hb.wr rfl) ⟨(ax_wr_ne (by decide)).trans m151, (ax_wr_ne (by decide)).trans m152, (ax_wr_ne (by decide)).trans m153, ax_wr_eq, a157.kept (ax_wr_ne (by decide)), a158.kept (ax_wr_ne (by decide))⟩ hI)
  have loop : ∀ (m i : Nat) (S1 : Nat → Int32) (o2 o3 : Option Value) (h1 : ax_H), i + m = 50 → But h h1 (fun j => j = 159) → MC h1 F S1 O A → (∀ j, (j < 133 ∨ ¬ (ask = 0 ∧ y0 < 40) ∨ j < 133 + 50 * y0 ∨ 133 + 50 * y0 + i ≤ j) → S1 j = S j) → (ask = 0 → y0 < 40 → ∀ c, c < i → S1 (133 + 50 * y0 + c) = nI (lf c)) → X G (d + 11) mX12_passes 200 [some (.ref 145), some (.int (nI i)), o2, o3] [] h1 Q := by
    intro m
    induction m with
    | zero =>
      intro i S1 o2 o3 h1 hi hb hM1 g1 g2
      obtain rfl : i = 50 := by omega
      refine ax_iload_n dX12_passes_200 rfl ?_
      refine ax_bipush dX12_passes_201 (v := nI 50) (by decide) ?_
      refine ax_icmp_geT 256 dX12_passes_203 (by decide +kernel) (by decide) ?_
      refine fin S1 h1 _ _ _ hb hM1 ((g1 0 (by omega)).trans h0) ⟨pk_us, fun j z1 z2 => (pk_un z1).trans (g1 j (by omega)), fun j z1 z2 => (pk_un (by omega)).trans (g1 j ?_), fun z1 z2 c hc => (pk_un (by omega)).trans (g2 z1 z2 c hc)⟩
      rcases z2 with q | q | q
      · exact Or.inr (Or.inl q)
      · exact Or.inr (Or.inr (Or.inl q))
      · exact Or.inr (Or.inr (Or.inr q))
    | succ m ih =>
      intro i S1 o2 o3 h1 hi hb hM1 g1 g2
      have e145 := (hb.2.2 145 (by omega)).trans e145h
      have e164 := (hb.2.2 164 (by omega)).trans e164h
      obtain ⟨m151, m152, m153, e159, a157, a158⟩ := id hM1
      have hz := (g1 0 (by omega)).trans h0
      by_cases ha : ask = 0
      · by_cases hy4 : y0 < 40
        · refine ax_iload_n dX12_passes_200 rfl ?_
          refine ax_bipush dX12_passes_201 (v := nI 50) (by decide) ?_
          refine ax_icmp_geF 256 dX12_passes_203 (by decide +kernel) (nI_ge (by omega) (by decide)) ?_
          refine ax_aload_n dX12_passes_206 rfl ?_
          refine ax_getf dX12_passes_207 flX12_266 e145 rfl ?_
          refine ax_if_neF 256 dX12_passes_210 (by decide +kernel) ha ?_
          refine ax_aload_n dX12_passes_213 rfl ?_
          refine ax_getf dX12_passes_214 flX12_99 e145 rfl ?_
          refine ax_iconst dX12_passes_217 (v := nI 0) (by decide) ?_
          refine ax_iald dX12_passes_218 e159 (ax_ix_nI (j := 0) (by decide) (by decide)) ?_
          rw [hz]
          refine ax_bipush dX12_passes_219 (v := nI 40) (by decide) ?_
          refine ax_icmp_geF 256 dX12_passes_221 (by decide +kernel) (nI_ge (by omega) (by decide)) ?_
          refine ax_aload_n dX12_passes_224 rfl ?_
          refine ax_getf dX12_passes_225 flX12_99 e145 rfl ?_
          refine ax_sipush dX12_passes_228 (v := nI 133) (by decide) ?_
          refine ax_bipush dX12_passes_231 (v := nI 50) (by decide) ?_
          refine ax_aload_n dX12_passes_233 rfl ?_
          refine ax_getf dX12_passes_234 flX12_99 e145 rfl ?_
          refine ax_iconst dX12_passes_237 (v := nI 0) (by decide) ?_
          refine ax_iald dX12_passes_238 e159 (ax_ix_nI (j := 0) (by decide) (by decide)) ?_
          rw [hz]
          refine ax_imul dX12_passes_239 ?_
          refine ax_iadd dX12_passes_240 ?_
          refine ax_iload_n dX12_passes_241 rfl ?_
          refine ax_iadd dX12_passes_242 ?_
          rw [pk_mul 50 y0, nI_add 133 (50 * y0), nI_add (133 + 50 * y0) i]
          refine ax_aload_n dX12_passes_243 rfl ?_
          refine ax_getf dX12_passes_244 flX12_121 e145 rfl ?_
          refine ax_iload_n dX12_passes_247 rfl ?_
          refine ax_iald dX12_passes_248 e164 (ax_ix_nI (j := i) (by omega) (by decide)) ?_
          rw [q164 i (by omega)]
          refine ax_iast dX12_passes_249 e159 (ax_ix_nI (j := 133 + 50 * y0 + i) (by omega) (by decide)) ?_
          refine ax_iinc dX12_passes_250 rfl (ax_inc 1) ?_
          refine ax_goto 200 dX12_passes_253 (by decide +kernel) ?_
          rw [nI_add i 1]
          refine ih (i + 1) _ _ _ _ (by omega) (hb.wr rfl) ⟨(ax_wr_ne (by decide)).trans m151, (ax_wr_ne (by decide)).trans m152, (ax_wr_ne (by decide)).trans m153, ax_wr_eq, a157.kept (ax_wr_ne (by decide)), a158.kept (ax_wr_ne (by decide))⟩ (fun j hj => ?_) (fun z1 z2 c hc => ?_)
          · have hne : j ≠ 133 + 50 * y0 + i := by
              rcases hj with q | q | q | q
              · omega
              · exact absurd ⟨ha, hy4⟩ q
              · omega
              · omega
            rw [pk_un hne]
            refine g1 j ?_
            rcases hj with q | q | q | q
            · exact Or.inl q
            · exact Or.inr (Or.inl q)
            · exact Or.inr (Or.inr (Or.inl q))
            · exact Or.inr (Or.inr (Or.inr (by omega)))
          · by_cases hci : c = i
            · rw [hci]; exact pk_us
            · rw [pk_un (by omega)]; exact g2 z1 z2 c (by omega)
        · refine ax_iload_n dX12_passes_200 rfl ?_
          refine ax_bipush dX12_passes_201 (v := nI 50) (by decide) ?_
          refine ax_icmp_geF 256 dX12_passes_203 (by decide +kernel) (nI_ge (by omega) (by decide)) ?_
          refine ax_aload_n dX12_passes_206 rfl ?_
          refine ax_getf dX12_passes_207 flX12_266 e145 rfl ?_
          refine ax_if_neF 256 dX12_passes_210 (by decide +kernel) ha ?_
          refine ax_aload_n dX12_passes_213 rfl ?_
          refine ax_getf dX12_passes_214 flX12_99 e145 rfl ?_
          refine ax_iconst dX12_passes_217 (v := nI 0) (by decide) ?_
          refine ax_iald dX12_passes_218 e159 (ax_ix_nI (j := 0) (by decide) (by decide)) ?_
          rw [hz]
          refine ax_bipush dX12_passes_219 (v := nI 40) (by decide) ?_
          refine ax_icmp_geT 256 dX12_passes_221 (by decide +kernel) (nI_le (by omega) (by omega)) ?_
          have all : ∀ j, S1 j = S j := fun j => g1 j (Or.inr (Or.inl (fun q => hy4 q.2)))
          exact fin S1 h1 _ _ _ hb hM1 hz ⟨pk_us, fun j z1 z2 => (pk_un z1).trans (all j), fun j z1 _ => (pk_un (by omega)).trans (all j), fun _ z2 => absurd z2 hy4⟩
      · refine ax_iload_n dX12_passes_200 rfl ?_
        refine ax_bipush dX12_passes_201 (v := nI 50) (by decide) ?_
        refine ax_icmp_geF 256 dX12_passes_203 (by decide +kernel) (nI_ge (by omega) (by decide)) ?_
        refine ax_aload_n dX12_passes_206 rfl ?_
        refine ax_getf dX12_passes_207 flX12_266 e145 rfl ?_
        refine ax_if_neT 256 dX12_passes_210 (by decide +kernel) ha ?_
        have all : ∀ j, S1 j = S j := fun j => g1 j (Or.inr (Or.inl (fun q => ha q.1)))
        exact fin S1 h1 _ _ _ hb hM1 hz ⟨pk_us, fun j z1 z2 => (pk_un z1).trans (all j), fun j z1 _ => (pk_un (by omega)).trans (all j), fun z1 => absurd z1 ha⟩
  intro o1 o2 o3
  refine ax_iconst dX12_passes_198 (v := nI 0) (by decide) ?_
  refine ax_istore_n dX12_passes_199 (Nat.le_of_ble_eq_true rfl) ?_
  exact loop 50 0 S _ _ h (by omega) But.rf hM (fun j _ => rfl) (fun _ _ c hc => absurd hc (Nat.not_lt_zero _))
end MY
