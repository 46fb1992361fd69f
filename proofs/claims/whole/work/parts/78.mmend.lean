section MM
variable {G : ax_G} {d : Nat} {h : ax_H} {Q : ax_O → ax_H → Prop} {N : Nt} {σ : Sd}
variable {th ta si pt fa co nm rd ask nw os sw bc bm : Int32} {gg : Int64} {F S O A : Nat → Int32}
theorem mend_le9 (r s p : Nat) : mend N σ r s p ≤ 99 := (cl_eq (a := 0) (by decide) (by decide) _).2.2
/-- what mended answers -/
def mdV (N : Nt) (σ : Sd) (swo : Option Nat) (ly ps : Nat → Nat) (r : Nat) : Nat := if swo = some r then σ 1 r + ps r / 10 else mh N σ ly r (σ 1 r + ps r / 10) (nS N)
theorem k_mended {r : Nat} {swo : Option Nat} {ly ps : Nat → Nat} (hsw : sw = on swo) (hsw2 : ∀ j, swo = some j → j < 100) (hr : r < nR N) (hN : nOK N) (hO : sOK N σ) (hF : FnB F N) (hL : FnL F O A N) (hS : Sb S N σ) (hM : MC h F S O A) (b1' : σ 1 r < 100000) (b2 : ps r < 1000000) (b3 : ∀ c, c < 50 → ly c < 100000) (a164 : isA h 164 50 50 ly) (a165 : isA h 165 10 10 ps) (e145 : h.2.2 145 = some (eM th ta si pt fa co nm rd ask nw os sw bc bm gg))
    (hq : ∀ h', But h h' mfP → MC h' F S O A → Q (.inl (some (.int (nI (mdV N σ swo ly ps r))))) h') : X G (d + 4) mX12_mended 0 (ax_in 5 [.ref 145, .int (nI r)]) [] h Q := by
  have hR := hN.2.2.1
  have hS5 := hN.1
  have f0 := hF.1
  obtain ⟨-, s1, -⟩ := id hS
  obtain ⟨e151, e152, e153, e159, a157, a158⟩ := id hM
  obtain ⟨f165, e165, q165⟩ := id a165
  have mle : ∀ n, mh N σ ly r (σ 1 r + ps r / 10) n ≤ σ 1 r + ps r / 10 := fun n => mh_le ly r _ n
  have loop : ∀ (m i : Nat) (h1 : ax_H) (o4 : Option Value), i + m = nS N → But h h1 mfP → MC h1 F S O A → (swo = some r → i = 0) → X G (d + 4) mX12_mended 36 [some (.ref 145), some (.int (nI r)), some (.int (nI (mh N σ ly r (σ 1 r + ps r / 10) i))), some (.int (nI i)), o4] [] h1 Q := by
    intro m
    induction m with
    | zero =>
      intro i h1 o4 hi hb hM1 hz
      obtain rfl : i = nS N := by omega
      have e145 := (hb.2.2 145 (by unfold mfP; omega)).trans e145
      have e151 := hM1.1
      refine ax_iload_n dX12_mended_36 rfl ?_
      refine ax_aload_n dX12_mended_37 rfl ?_
      refine ax_cV dX12_mended_38 mmX12_stuffs lkX12_273 miX12_stuffs msX12_stuffs (ax_recv_of e145 rfl) rfl rfl (Nat.le_of_ble_eq_true rfl) (Nat.le_of_ble_eq_true rfl) rfl rfl (k_stuffs e145 e151 ⟨_, rfl, ?_⟩)
      rw [f0]
      refine ax_icmp_geT 99 dX12_mended_41 (by decide) (Int32.le_refl _) ?_
      refine ax_iload_n dX12_mended_99 rfl ?_
      refine ax_ireturn dX12_mended_100 rfl ?_
      have := hq h1 hb hM1
      unfold mdV at this
      by_cases hs : swo = some r
      · rw [if_pos hs] at this
        have h0 := hz hs
        rw [h0]
        exact this
      · rw [if_neg hs] at this
        exact this
    | succ m ih =>
      intro i h1 o4 hi hb hM1 hz
      have e145 := (hb.2.2 145 (by unfold mfP; omega)).trans e145
      have e151 := hM1.1
      obtain ⟨f164, e164, q164⟩ := a164.kept (hb.2.2 164 (by unfold mfP; omega))
      have hst : mh N σ ly r (σ 1 r + ps r / 10) (i + 1) = mh N σ ly r (σ 1 r + ps r / 10) i - mend N σ r i (ly (5 * r + i)) * ly (5 * r + i) := rfl
      have hml := mle i
      generalize mh N σ ly r (σ 1 r + ps r / 10) (i + 1) = z1 at hst
      refine ax_iload_n dX12_mended_36 rfl ?_
      refine ax_aload_n dX12_mended_37 rfl ?_
      refine ax_cV dX12_mended_38 mmX12_stuffs lkX12_273 miX12_stuffs msX12_stuffs (ax_recv_of e145 rfl) rfl rfl (Nat.le_of_ble_eq_true rfl) (Nat.le_of_ble_eq_true rfl) rfl rfl (k_stuffs e145 e151 ⟨_, rfl, ?_⟩)
      rw [f0]
      refine ax_icmp_geF 99 dX12_mended_41 (by decide) (nI_ge (by omega) (by omega)) ?_
      by_cases hs : swo = some r
      · have := hq h1 hb hM1
        unfold mdV at this
        rw [if_pos hs] at this
        have h0 := hz hs
        subst h0
        refine ax_iload_n dX12_mended_44 rfl ?_
        refine ax_aload_n dX12_mended_45 rfl ?_
        refine ax_getf dX12_mended_46 flX12_109 e145 rfl ?_
        refine ax_icmp_eqT 99 dX12_mended_49 (by decide) (by rw [hsw]; exact (on_eq hsw2 (by omega)).mpr hs) ?_
        refine ax_iload_n dX12_mended_99 rfl ?_
        exact ax_ireturn dX12_mended_100 rfl this
      · have hb3 := b3 (5 * r + i) (by omega)
        have hme := mend_le9 (N := N) (σ := σ) r i (ly (5 * r + i))
        have hpm := Nat.mul_le_mul hme (Nat.le_of_lt hb3)
        have ih1 := fun h1 o4 => ih (i + 1) h1 o4 (by omega)
        have hst2 : mh N σ ly r (σ 1 r + ps r / 10) (i + 1) = z1 := hst.symm ▸ rfl
        rw [hst2] at ih1
        have nx : ∀ (h2 : ax_H) (o4 : Option Value), But h h2 mfP → MC h2 F S O A → X G (d + 4) mX12_mended 93 [some (.ref 145), some (.int (nI r)), some (.int (nI z1)), some (.int (nI i)), o4] [] h2 Q := by
          intro h2 o4 hb2 hM2
          refine ax_iinc dX12_mended_93 rfl (ax_inc 1) ?_
          refine ax_goto 36 dX12_mended_96 (by decide) ?_
          rw [nI_add i 1]
          exact ih1 h2 o4 hb2 hM2 (fun q => absurd q hs)
        refine ax_iload_n dX12_mended_44 rfl ?_
        refine ax_aload_n dX12_mended_45 rfl ?_
        refine ax_getf dX12_mended_46 flX12_109 e145 rfl ?_
        refine ax_icmp_eqF 99 dX12_mended_49 (by decide) (fun q => hs ((on_eq hsw2 (by omega)).mp (by rw [← hsw]; exact q))) ?_
        refine ax_aload_n dX12_mended_52 rfl ?_
        refine ax_getf dX12_mended_53 flX12_121 e145 rfl ?_
        refine ax_iconst dX12_mended_56 (v := nI 5) (by decide) ?_
        refine ax_iload_n dX12_mended_57 rfl ?_
        refine ax_imul dX12_mended_58 ?_
        refine ax_iload_n dX12_mended_59 rfl ?_
        refine ax_iadd dX12_mended_60 ?_
        rw [pk_mul 5 r, nI_add (5 * r) i]
        refine ax_iald dX12_mended_61 e164 (ax_ix_nI (j := 5 * r + i) (by omega) (by decide)) ?_
        rw [q164 (5 * r + i) (by omega)]
        by_cases hl0 : ly (5 * r + i) = 0
        · have hz1 : z1 = mh N σ ly r (σ 1 r + ps r / 10) i := by rw [hst, hl0, Nat.mul_zero, Nat.sub_zero]
          refine ax_istore dX12_mended_62 (Nat.le_of_ble_eq_true rfl) ?_
          refine ax_iload dX12_mended_64 rfl ?_
          refine ax_if_leT 93 dX12_mended_66 (by decide) (by rw [hl0]; decide) ?_
          rw [← hz1]
          exact nx h1 _ hb hM1
        · refine ax_istore dX12_mended_62 (Nat.le_of_ble_eq_true rfl) ?_
          refine ax_iload dX12_mended_64 rfl ?_
          refine ax_if_leF 93 dX12_mended_66 (by decide) (nI_nle (by omega) (by omega)) ?_
          refine ax_iload_n dX12_mended_69 rfl ?_
          refine ax_iload dX12_mended_70 rfl ?_
          refine ax_aload_n dX12_mended_72 rfl ?_
          refine ax_iload_n dX12_mended_73 rfl ?_
          refine ax_iload_n dX12_mended_74 rfl ?_
          refine ax_iload dX12_mended_75 rfl ?_
          refine ax_cV dX12_mended_77 mmX12_mendOf lkX12_327 miX12_mendOf msX12_mendOf (ax_recv_of e145 rfl) rfl rfl (Nat.le_of_ble_eq_true rfl) (Nat.le_of_ble_eq_true rfl) rfl rfl (k_mendOf (d := d) hr (by omega) hN hO hF hL hS hM1 e145 (fun h2 hb2 hM2 => ⟨_, rfl, ?_⟩))
          refine ax_imul dX12_mended_80 ?_
          rw [pk_mul (ly (5 * r + i)) (mend N σ r i (ly (5 * r + i))), Nat.mul_comm (ly (5 * r + i)) (mend N σ r i (ly (5 * r + i)))]
          by_cases hge : mend N σ r i (ly (5 * r + i)) * ly (5 * r + i) ≤ mh N σ ly r (σ 1 r + ps r / 10) i
          · refine ax_isub dX12_mended_81 ?_
            refine ax_istore_n dX12_mended_82 (Nat.le_of_ble_eq_true rfl) ?_
            refine ax_iload_n dX12_mended_83 rfl ?_
            rw [pk_sub hge, ← hst]
            refine ax_if_geT 91 dX12_mended_84 (by decide) (nI_pos' (by omega)) ?_
            refine ax_iload_n dX12_mended_91 rfl ?_
            refine ax_istore_n dX12_mended_92 (Nat.le_of_ble_eq_true rfl) ?_
            exact nx h2 _ (hb.tr hb2) hM2
          · have hz0 : z1 = 0 := by omega
            refine ax_isub dX12_mended_81 ?_
            refine ax_istore_n dX12_mended_82 (Nat.le_of_ble_eq_true rfl) ?_
            refine ax_iload_n dX12_mended_83 rfl ?_
            refine ax_if_geF 91 dX12_mended_84 (by decide) (fun q => Int32.not_le.mpr (pk_sneg (a := mh N σ ly r (σ 1 r + ps r / 10) i) (b := mend N σ r i (ly (5 * r + i)) * ly (5 * r + i)) (by omega) (by omega)) q) ?_
            refine ax_iconst dX12_mended_87 (v := nI 0) (by decide) ?_
            refine ax_goto 92 dX12_mended_88 (by decide) ?_
            refine ax_istore_n dX12_mended_92 (Nat.le_of_ble_eq_true rfl) ?_
            rw [hz0] at nx
            exact nx h2 _ (hb.tr hb2) hM2
  refine ax_aload_n dX12_mended_0 rfl ?_
  refine ax_getf dX12_mended_1 flX12_99 e145 rfl ?_
  refine ax_iconst dX12_mended_4 (v := nI 1) (by decide) ?_
  refine ax_iload_n dX12_mended_5 rfl ?_
  refine ax_iadd dX12_mended_6 ?_
  rw [nI_add 1 r]
  refine ax_iald dX12_mended_7 e159 (ax_ix_nI (j := 1 + r) (by omega) (by decide)) ?_
  rw [s1 r hr]
  refine ax_aload_n dX12_mended_8 rfl ?_
  refine ax_getf dX12_mended_9 flX12_124 e145 rfl ?_
  refine ax_iload_n dX12_mended_12 rfl ?_
  refine ax_iald dX12_mended_13 e165 (ax_ix_nI (j := r) (by omega) (by decide)) ?_
  rw [q165 r (by omega)]
  refine ax_bipush dX12_mended_14 (v := nI 10) (by decide) ?_
  refine ax_idiv dX12_mended_16 (by decide) ?_
  rw [pk_div (show ps r < 2 ^ 31 by omega) (show 0 < 10 by decide) (by decide)]
  refine ax_iadd dX12_mended_17 ?_
  rw [nI_add (σ 1 r) (ps r / 10)]
  refine ax_istore_n dX12_mended_18 (Nat.le_of_ble_eq_true rfl) ?_
  refine ax_iload_n dX12_mended_19 rfl ?_
  refine ax_ldcw dX12_mended_20 cnX12_326 ?_
  refine ax_icmp_leT 32 dX12_mended_23 (by decide) (show nI (σ 1 r + ps r / 10) ≤ nI 999999 from nI_le (by omega) (by decide)) ?_
  refine ax_iload_n dX12_mended_32 rfl ?_
  refine ax_istore_n dX12_mended_33 (Nat.le_of_ble_eq_true rfl) ?_
  refine ax_iconst dX12_mended_34 (v := nI 0) (by decide) ?_
  refine ax_istore_n dX12_mended_35 (Nat.le_of_ble_eq_true rfl) ?_
  exact loop (nS N) 0 h none (by omega) But.rf hM (fun _ => rfl)
end MM
