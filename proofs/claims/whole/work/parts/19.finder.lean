/-! ===== WayFinder ===== -/
section WF
variable {G : ax_G} {d : Nat} {h : ax_H} {Q : ax_O → ax_H → Prop} {N : Nt} {σ : Sd}
/-- where road r leads from a -/
def oth (N : Nt) (r a : Nat) : Option Nat := if N.1 3 r = a then some (N.1 4 r) else if N.1 4 r = a then some (N.1 3 r) else none
def on : Option Nat → Int32
  | none => -1
  | some k => nI k
theorem c_otherEnd {r a : Nat} (hr : r < nR N) (hN : nOK N) (ha : a < 7) (hL : Land h N) (hq : Q (.inl (some (.int (on (oth N r a))))) h) : X G d mX1_otherEnd 0 (ax_in 3 [.ref 89, .int (nI r), .int (nI a)]) [] h Q := by
  obtain ⟨⟨co, hl, e89, -⟩, -, -, ⟨rf, e94, hrf⟩, ⟨rt, e95, hrt⟩, -⟩ := hL
  have hR := hN.2.2.1
  have hP := hN.2.1
  have hrd := hN.2.2.2.2.2.1 r hr
  refine ax_aload_n dX1_otherEnd_0 rfl ?_
  refine ax_getf dX1_otherEnd_1 flX1_27 e89 rfl ?_
  refine ax_iload_n dX1_otherEnd_4 rfl ?_
  refine ax_iald dX1_otherEnd_5 e94 (ax_ix_nI (by omega) (by decide)) ?_
  rw [hrf r hr]
  refine ax_iload_n dX1_otherEnd_6 rfl ?_
  unfold oth at hq
  by_cases h1 : N.1 3 r = a
  · rw [if_pos h1] at hq
    refine ax_icmp_neF 19 dX1_otherEnd_7 (by decide) (by rw [h1]) ?_
    refine ax_aload_n dX1_otherEnd_10 rfl ?_
    refine ax_getf dX1_otherEnd_11 flX1_30 e89 rfl ?_
    refine ax_iload_n dX1_otherEnd_14 rfl ?_
    refine ax_iald dX1_otherEnd_15 e95 (ax_ix_nI (by omega) (by decide)) ?_
    rw [hrt r hr]
    refine ax_goto 39 dX1_otherEnd_16 (by decide) ?_
    exact ax_ireturn dX1_otherEnd_39 rfl hq
  · rw [if_neg h1] at hq
    refine ax_icmp_neT 19 dX1_otherEnd_7 (by decide) (fun q => h1 ((nI_eq (by omega) (by omega)).mp q)) ?_
    refine ax_aload_n dX1_otherEnd_19 rfl ?_
    refine ax_getf dX1_otherEnd_20 flX1_30 e89 rfl ?_
    refine ax_iload_n dX1_otherEnd_23 rfl ?_
    refine ax_iald dX1_otherEnd_24 e95 (ax_ix_nI (by omega) (by decide)) ?_
    rw [hrt r hr]
    refine ax_iload_n dX1_otherEnd_25 rfl ?_
    by_cases h2 : N.1 4 r = a
    · rw [if_pos h2] at hq
      refine ax_icmp_neF 38 dX1_otherEnd_26 (by decide) (by rw [h2]) ?_
      refine ax_aload_n dX1_otherEnd_29 rfl ?_
      refine ax_getf dX1_otherEnd_30 flX1_27 e89 rfl ?_
      refine ax_iload_n dX1_otherEnd_33 rfl ?_
      refine ax_iald dX1_otherEnd_34 e94 (ax_ix_nI (by omega) (by decide)) ?_
      rw [hrf r hr]
      refine ax_goto 39 dX1_otherEnd_35 (by decide) ?_
      exact ax_ireturn dX1_otherEnd_39 rfl hq
    · rw [if_neg h2] at hq
      refine ax_icmp_neT 38 dX1_otherEnd_26 (by decide) (fun q => h2 ((nI_eq (by omega) (by omega)).mp q)) ?_
      refine ax_iconst dX1_otherEnd_38 (v := -1) (by decide) ?_
      exact ax_ireturn dX1_otherEnd_39 rfl hq
/-- what the finder reckons with: 2^29 stands for no road -/
def pv (N : Nt) (σ : Sd) (ld r : Nat) : Nat := if 1000 ≤ σ 1 r then 536870912 else price N σ r ld * 16 + 1
def WfIs (h : ax_H) : Prop := (∃ m p, h.2.2 138 = some (eWf m p)) ∧ anA h 139 7 ∧ anA h 140 10 ∧ anA h 141 7
theorem price_le (N : Nt) (σ : Sd) (r ld : Nat) : 1 ≤ price N σ r ld ∧ price N σ r ld ≤ 9999 := (cl_eq (by decide) (by decide) _).2
theorem pv_le (N : Nt) (σ : Sd) (ld r : Nat) : 1 ≤ pv N σ ld r ∧ pv N σ ld r ≤ 536870912 := by
  unfold pv
  have := price_le N σ r ld
  by_cases h1 : 1000 ≤ σ 1 r
  · rw [if_pos h1]; omega
  · rw [if_neg h1]; omega
theorem c_setPrices {ld : Nat} (hN : nOK N) (hO : sOK N σ) (hL : Land h N) (hS : Seen h N σ) (hW : WfIs h)
    (hq : ∀ h', Same h h' 132 140 → (∀ k, 134 ≤ k → k ≤ 139 → h'.2.2 k = h.2.2 k) → Seen h' N σ → isA h' 140 10 (nR N) (pv N σ ld) → Q (.inl none) h') : X G (d + 3) mX9_setPrices 0 (ax_in 3 [.ref 138, .int (nI ld)]) [] h Q := by
  have hR := hN.2.2.1
  have loop : ∀ (m i : Nat) (h1 : ax_H), i + m = nR N → Same h h1 132 140 → (∀ k, 134 ≤ k → k ≤ 139 → h1.2.2 k = h.2.2 k) → Seen h1 N σ → isA h1 140 10 i (pv N σ ld) → X G (d + 3) mX9_setPrices 2 [some (.ref 138), some (.int (nI ld)), some (.int (nI i))] [] h1 Q := by
    intro m
    induction m with
    | zero =>
      intro i h1 hi hs hk hS1 hA
      obtain ⟨⟨mm, pp, e138⟩, -⟩ := hW
      obtain ⟨⟨co, hl, e89, -⟩, -⟩ := hL
      rw [← hk 138 (by decide) (by decide)] at e138
      rw [← hs.2.2 89 (by decide)] at e89
      obtain rfl : i = nR N := by omega
      refine ax_iload_n dX9_setPrices_2 rfl ?_
      refine ax_aload_n dX9_setPrices_3 rfl ?_
      refine ax_getf dX9_setPrices_4 flX9_21 e138 rfl ?_
      refine ax_getf dX9_setPrices_7 flX9_29 e89 rfl ?_
      refine ax_icmp_geT 55 dX9_setPrices_10 (by decide) (Int32.le_refl _) ?_
      exact ax_return dX9_setPrices_55 rfl (hq h1 hs hk hS1 hA)
    | succ m ih =>
      intro i h1 hi hs hk hS1 hA
      obtain ⟨⟨mm, pp, e138⟩, -⟩ := hW
      have hL1 : Land h1 N := hL.kept (fun k a b => hs.2.2 k (by omega))
      obtain ⟨⟨co, hl, e89, -⟩, -⟩ := id hL1
      rw [← hk 138 (by decide) (by decide)] at e138
      obtain ⟨f, e140, hf⟩ := hA
      have e131 := hS1.1
      refine ax_iload_n dX9_setPrices_2 rfl ?_
      refine ax_aload_n dX9_setPrices_3 rfl ?_
      refine ax_getf dX9_setPrices_4 flX9_21 e138 rfl ?_
      refine ax_getf dX9_setPrices_7 flX9_29 e89 rfl ?_
      refine ax_icmp_geF 55 dX9_setPrices_10 (by decide) (nI_ge (by omega) (by omega)) ?_
      refine ax_aload_n dX9_setPrices_13 rfl ?_
      refine ax_getf dX9_setPrices_14 flX9_15 e138 rfl ?_
      refine ax_iload_n dX9_setPrices_17 rfl ?_
      refine ax_aload_n dX9_setPrices_18 rfl ?_
      refine ax_getf dX9_setPrices_19 flX9_25 e138 rfl ?_
      refine ax_iload_n dX9_setPrices_22 rfl ?_
      refine ax_cV dX9_setPrices_23 mmX4_isWorn lkX9_35 miX4_isWorn msX4_isWorn (ax_recv_of e131 rfl) rfl rfl (Nat.le_of_ble_eq_true rfl) (Nat.le_of_ble_eq_true rfl) rfl rfl (c_svWorn (by omega) hN hS1 (hO.1 i (by omega)) ⟨_, rfl, ?_⟩)
      by_cases hw : 1000 ≤ σ 1 i
      · rw [b1_t hw]
        refine ax_if_eqF 34 dX9_setPrices_26 (by decide) (by decide) ?_
        refine ax_ldc dX9_setPrices_29 cnX9_41 ?_
        refine ax_goto 48 dX9_setPrices_31 (by decide) ?_
        refine ax_iast dX9_setPrices_48 e140 (ax_ix_nI (by omega) (by decide)) ?_
        refine ax_iinc dX9_setPrices_49 rfl (ax_inc 1) ?_
        refine ax_goto 2 dX9_setPrices_52 (by decide) ?_
        rw [nI_add]
        have hsm : Same h1 (ax_wr h1 140 (eI 10 (upd f i 536870912))) 140 140 := Same.rfl'.wr (by decide) (by decide)
        refine ih (i + 1) _ (by omega) (hs.tr (hsm.wide (by decide) (by decide))) (fun k a b => (ax_wr_ne (by omega)).trans (hk k a b)) ?_ ⟨_, ax_wr_eq, fun j hj => ?_⟩
        · obtain ⟨s1, s2, s3, s4, s5, s6, g, s7, s8⟩ := hS1
          exact ⟨(ax_wr_ne (by decide)).trans s1, s2.kept (ax_wr_ne (by decide)), s3.kept (ax_wr_ne (by decide)), s4.kept (ax_wr_ne (by decide)), s5.kept (ax_wr_ne (by decide)), s6.kept (ax_wr_ne (by decide)), g, (ax_wr_ne (by decide)).trans s7, s8⟩
        · simp only [upd]
          by_cases hj2 : j = i
          · subst hj2
            rw [if_pos rfl]; unfold pv; rw [if_pos hw]; rfl
          · rw [if_neg hj2]; exact hf j (by omega)
      · rw [b1_f hw]
        refine ax_if_eqT 34 dX9_setPrices_26 (by decide) rfl ?_
        refine ax_aload_n dX9_setPrices_34 rfl ?_
        refine ax_getf dX9_setPrices_35 flX9_25 e138 rfl ?_
        refine ax_iload_n dX9_setPrices_38 rfl ?_
        refine ax_iload_n dX9_setPrices_39 rfl ?_
        refine ax_cV dX9_setPrices_40 mmX4_priceOf lkX9_42 miX4_priceOf msX4_priceOf (ax_recv_of e131 rfl) rfl rfl (Nat.le_of_ble_eq_true rfl) (Nat.le_of_ble_eq_true rfl) rfl rfl (c_priceOf (by omega) hN hL1 hS1 (fun h2 hs2 hS2 => ⟨_, rfl, ?_⟩))
        have e140' : h2.2.2 140 = some (eI 10 f) := (hs2.2.2 140 (by decide)).trans e140
        refine ax_bipush dX9_setPrices_43 (v := nI 16) (by decide) ?_
        refine ax_imul dX9_setPrices_45 ?_
        refine ax_iconst dX9_setPrices_46 (v := nI 1) (by decide) ?_
        refine ax_iadd dX9_setPrices_47 ?_
        rw [pk_mul, nI_add]
        refine ax_iast dX9_setPrices_48 e140' (ax_ix_nI (by omega) (by decide)) ?_
        refine ax_iinc dX9_setPrices_49 rfl (ax_inc 1) ?_
        refine ax_goto 2 dX9_setPrices_52 (by decide) ?_
        rw [nI_add]
        have hsm : Same h2 (ax_wr h2 140 (eI 10 (upd f i (nI (price N σ i ld * 16 + 1))))) 140 140 := Same.rfl'.wr (by decide) (by decide)
        refine ih (i + 1) _ (by omega) (hs.tr ((hs2.wide (by decide) (by decide)).tr (hsm.wide (by decide) (by decide)))) (fun k a b => (ax_wr_ne (by omega)).trans ((hs2.2.2 k (by omega)).trans (hk k a b))) ?_ ⟨_, ax_wr_eq, fun j hj => ?_⟩
        · obtain ⟨s1, s2, s3, s4, s5, s6, g, s7, s8⟩ := hS2
          exact ⟨(ax_wr_ne (by decide)).trans s1, s2.kept (ax_wr_ne (by decide)), s3.kept (ax_wr_ne (by decide)), s4.kept (ax_wr_ne (by decide)), s5.kept (ax_wr_ne (by decide)), s6.kept (ax_wr_ne (by decide)), g, (ax_wr_ne (by decide)).trans s7, s8⟩
        · simp only [upd]
          by_cases hj2 : j = i
          · subst hj2
            rw [if_pos rfl]; unfold pv; rw [if_neg hw]
          · rw [if_neg hj2]; exact hf j (by omega)
  obtain ⟨-, -, ⟨f, e140⟩, -⟩ := id hW
  refine ax_iconst dX9_setPrices_0 (v := nI 0) (by decide) ?_
  refine ax_istore_n dX9_setPrices_1 (Nat.le_of_ble_eq_true rfl) ?_
  exact loop (nR N) 0 h (by omega) Same.rfl' (fun _ _ _ => rfl) hS ⟨f, e140, fun j hj => by omega⟩
end WF
