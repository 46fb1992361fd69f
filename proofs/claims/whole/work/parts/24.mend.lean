section MR
variable {G : ax_G} {d : Nat} {h : ax_H} {Q : ax_O → ax_H → Prop} {N : Nt} {σ : Sd}
def dpL (ly pu : Nat → Nat) (r n : Nat) : Nat → Nat := fun c => if 5 * r ≤ c ∧ c < 5 * r + n then ly c + pu c else ly c
def dpF (fe pu : Nat → Nat) (r n : Nat) : Nat → Nat := fun s => if s < n then fe s + pu (5 * r + s) else fe s
def swL (ly : Nat → Nat) (r n : Nat) : Nat → Nat := fun c => if 5 * r ≤ c ∧ c < 5 * r + n then 0 else ly c
theorem dpL_0 (ly pu : Nat → Nat) (r : Nat) : dpL ly pu r 0 = ly := funext fun c => if_neg (by omega)
theorem dpF_0 (fe pu : Nat → Nat) (r : Nat) : dpF fe pu r 0 = fe := funext fun c => if_neg (by omega)
theorem swL_0 (ly : Nat → Nat) (r : Nat) : swL ly r 0 = ly := funext fun c => if_neg (by omega)
theorem dpL_s (ly pu : Nat → Nat) (r n : Nat) : adN (dpL ly pu r n) (5 * r + n) (pu (5 * r + n)) = dpL ly pu r (n + 1) := by
  funext c
  simp only [adN, dpL]
  by_cases h1 : c = 5 * r + n
  · subst h1; rw [if_pos rfl, if_neg (by omega), if_pos (by omega)]
  · rw [if_neg h1]
    by_cases h2 : 5 * r ≤ c ∧ c < 5 * r + n
    · rw [if_pos h2, if_pos (by omega)]
    · rw [if_neg h2, if_neg (by omega)]
theorem dpF_s (fe pu : Nat → Nat) (r n : Nat) : adN (dpF fe pu r n) n (pu (5 * r + n)) = dpF fe pu r (n + 1) := by
  funext c
  simp only [adN, dpF]
  by_cases h1 : c = n
  · subst h1; rw [if_pos rfl, if_neg (by omega), if_pos (by omega)]
  · rw [if_neg h1]
    by_cases h2 : c < n
    · rw [if_pos h2, if_pos (by omega)]
    · rw [if_neg h2, if_neg (by omega)]
theorem swL_s (ly : Nat → Nat) (r n : Nat) : upN (swL ly r n) (5 * r + n) 0 = swL ly r (n + 1) := by
  funext c
  simp only [upN, swL]
  by_cases h1 : c = 5 * r + n
  · subst h1; rw [if_pos rfl, if_pos (by omega)]
  · rw [if_neg h1]
    by_cases h2 : 5 * r ≤ c ∧ c < 5 * r + n
    · rw [if_pos h2, if_pos (by omega)]
    · rw [if_neg h2, if_neg (by omega)]
theorem c_drop {k r : Nat} {yr kp : Int32} {ly pu fe : Nat → Nat} {cm : Int32} (hk : k + 8 < 131) (hk1 : 106 ≤ k) (hr : r < 10) (hN : nOK N) (hL : Land h N) (e142 : h.2.2 142 = some (eYr cm)) (ek : h.2.2 k = some (eSt k yr kp)) (a3 : isA h (k + 3) 50 50 pu) (a4 : isA h (k + 4) 5 5 fe) (a143 : isA h 143 50 50 ly)
    (hq : ∀ h', But h h' (fun j => j = 143 ∨ j = k + 4) → isA h' 143 50 50 (dpL ly pu r (nS N)) → isA h' (k + 4) 5 5 (dpF fe pu r (nS N)) → Q (.inl none) h') : X G (d + 1) mX10_dropOnPurpose 0 (ax_in 5 [.ref 142, .ref k, .int (nI r)]) [] h Q := by
  obtain ⟨f3, ek_3, hf3⟩ := a3
  have hS5 := hN.1
  have loop : ∀ (m i : Nat) (h1 : ax_H) (o4 : Option Value), i + m = nS N → But h h1 (fun j => j = 143 ∨ j = k + 4) → isA h1 143 50 50 (dpL ly pu r i) → isA h1 (k + 4) 5 5 (dpF fe pu r i) → X G (d + 1) mX10_dropOnPurpose 2 [some (.ref 142), some (.ref k), some (.int (nI r)), some (.int (nI i)), o4] [] h1 Q := by
    intro m
    induction m with
    | zero =>
      intro i h1 o4 hi hb a1 a2
      obtain rfl : i = nS N := by omega
      have e142 := (hb.2.2 142 (by omega)).trans e142
      obtain ⟨⟨co, hl, e89, -⟩, -⟩ := hL
      have e89 := (hb.2.2 89 (by omega)).trans e89
      refine ax_iload_n dX10_dropOnPurpose_2 rfl ?_
      refine ax_aload_n dX10_dropOnPurpose_3 rfl ?_
      refine ax_getf dX10_dropOnPurpose_4 flX10_18 e142 rfl ?_
      refine ax_getf dX10_dropOnPurpose_7 flX10_121 e89 rfl ?_
      refine ax_icmp_geT 57 dX10_dropOnPurpose_10 (by decide) (Int32.le_refl _) ?_
      exact ax_return dX10_dropOnPurpose_57 rfl (hq h1 hb a1 a2)
    | succ m ih =>
      intro i h1 o4 hi hb a1 a2
      have e142 := (hb.2.2 142 (by omega)).trans e142
      have ek := (hb.2.2 k (by omega)).trans ek
      have ek_3 := (hb.2.2 (k + 3) (by omega)).trans ek_3
      obtain ⟨⟨co, hl, e89, -⟩, -⟩ := id hL
      have e89 := (hb.2.2 89 (by omega)).trans e89
      obtain ⟨g1, e143, hg1⟩ := a1
      obtain ⟨g2, ek_4, hg2⟩ := a2
      refine ax_iload_n dX10_dropOnPurpose_2 rfl ?_
      refine ax_aload_n dX10_dropOnPurpose_3 rfl ?_
      refine ax_getf dX10_dropOnPurpose_4 flX10_18 e142 rfl ?_
      refine ax_getf dX10_dropOnPurpose_7 flX10_121 e89 rfl ?_
      refine ax_icmp_geF 57 dX10_dropOnPurpose_10 (by decide) (nI_ge (by omega) (by omega)) ?_
      refine ax_aload_n dX10_dropOnPurpose_13 rfl ?_
      refine ax_getf dX10_dropOnPurpose_14 flX10_124 ek rfl ?_
      refine ax_iload_n dX10_dropOnPurpose_17 rfl ?_
      refine ax_iload_n dX10_dropOnPurpose_18 rfl ?_
      refine ax_cSN dX10_dropOnPurpose_19 mmX11_cell lnX10_112 mtX11_cell rfl rfl (Nat.le_of_ble_eq_true rfl) (Nat.le_of_ble_eq_true rfl) rfl rfl (c_cellN ⟨_, rfl, ?_⟩)
      refine ax_iald dX10_dropOnPurpose_22 ek_3 (ax_ix_nI (by omega) (by decide)) ?_
      rw [hf3 _ (by omega)]
      refine ax_istore dX10_dropOnPurpose_23 (Nat.le_of_ble_eq_true rfl) ?_
      refine ax_aload_n dX10_dropOnPurpose_25 rfl ?_
      refine ax_getf dX10_dropOnPurpose_26 flX10_9 e142 rfl ?_
      refine ax_iload_n dX10_dropOnPurpose_29 rfl ?_
      refine ax_iload_n dX10_dropOnPurpose_30 rfl ?_
      refine ax_cSN dX10_dropOnPurpose_31 mmX11_cell lnX10_112 mtX11_cell rfl rfl (Nat.le_of_ble_eq_true rfl) (Nat.le_of_ble_eq_true rfl) rfl rfl (c_cellN ⟨_, rfl, ?_⟩)
      refine ax_dup2 dX10_dropOnPurpose_34 rfl rfl ?_
      refine ax_iald dX10_dropOnPurpose_35 e143 (ax_ix_nI (by omega) (by decide)) ?_
      refine ax_iload dX10_dropOnPurpose_36 rfl ?_
      refine ax_iadd dX10_dropOnPurpose_38 ?_
      refine ax_iast dX10_dropOnPurpose_39 e143 (ax_ix_nI (by omega) (by decide)) ?_
      refine ax_aload_n dX10_dropOnPurpose_40 rfl ?_
      refine ax_getf dX10_dropOnPurpose_41 flX10_115 ((ax_wr_ne (by omega)).trans (ek)) rfl ?_
      refine ax_iload_n dX10_dropOnPurpose_44 rfl ?_
      refine ax_dup2 dX10_dropOnPurpose_45 rfl rfl ?_
      refine ax_iald dX10_dropOnPurpose_46 ((ax_wr_ne (by omega)).trans (ek_4)) (ax_ix_nI (by omega) (by decide)) ?_
      refine ax_iload dX10_dropOnPurpose_47 rfl ?_
      refine ax_iadd dX10_dropOnPurpose_49 ?_
      refine ax_iast dX10_dropOnPurpose_50 ((ax_wr_ne (by omega)).trans (ek_4)) (ax_ix_nI (by omega) (by decide)) ?_
      refine ax_iinc dX10_dropOnPurpose_51 rfl (ax_inc 1) ?_
      refine ax_goto 2 dX10_dropOnPurpose_54 (by decide) ?_
      rw [nI_add]
      refine ih (i + 1) _ _ (by omega) ((hb.wr (Or.inl rfl)).wr (Or.inr rfl)) ⟨_, (ax_wr_ne (by omega)).trans ax_wr_eq, ?_⟩ ⟨_, ax_wr_eq, ?_⟩
      · rw [← dpL_s]; exact isA_ad hg1 (by omega)
      · rw [← dpF_s]; exact isA_ad hg2 (by omega)
  refine ax_iconst dX10_dropOnPurpose_0 (v := nI 0) (by decide) ?_
  refine ax_istore_n dX10_dropOnPurpose_1 (Nat.le_of_ble_eq_true rfl) ?_
  exact loop (nS N) 0 h none (by omega) But.rf (by rw [dpL_0]; exact a143) (by rw [dpF_0]; exact a4)
theorem c_sweep {r : Nat} {ly : Nat → Nat} {cm : Int32} (hr : r < 10) (e142 : h.2.2 142 = some (eYr cm)) (a143 : isA h 143 50 50 ly)
    (hq : ∀ h', But h h' (fun j => j = 143) → isA h' 143 50 50 (swL ly r 5) → Q (.inl none) h') : X G (d + 1) mX10_sweep 0 (ax_in 3 [.ref 142, .int (nI r)]) [] h Q := by
  have loop : ∀ (m i : Nat) (h1 : ax_H), i + m = 5 → But h h1 (fun j => j = 143) → isA h1 143 50 50 (swL ly r i) → X G (d + 1) mX10_sweep 2 [some (.ref 142), some (.int (nI r)), some (.int (nI i))] [] h1 Q := by
    intro m
    induction m with
    | zero =>
      intro i h1 hi hb a1
      obtain rfl : i = 5 := by omega
      refine ax_iload_n dX10_sweep_2 rfl ?_
      refine ax_iconst dX10_sweep_3 (v := nI 5) (by decide) ?_
      refine ax_icmp_geT 24 dX10_sweep_4 (by decide) (Int32.le_refl _) ?_
      exact ax_return dX10_sweep_24 rfl (hq h1 hb a1)
    | succ m ih =>
      intro i h1 hi hb a1
      have e142 := (hb.2.2 142 (by omega)).trans e142
      obtain ⟨g1, e143, hg1⟩ := a1
      refine ax_iload_n dX10_sweep_2 rfl ?_
      refine ax_iconst dX10_sweep_3 (v := nI 5) (by decide) ?_
      refine ax_icmp_geF 24 dX10_sweep_4 (by decide) (nI_ge (by omega) (by omega)) ?_
      refine ax_aload_n dX10_sweep_7 rfl ?_
      refine ax_getf dX10_sweep_8 flX10_9 e142 rfl ?_
      refine ax_iload_n dX10_sweep_11 rfl ?_
      refine ax_iload_n dX10_sweep_12 rfl ?_
      refine ax_cSN dX10_sweep_13 mmX11_cell lnX10_112 mtX11_cell rfl rfl (Nat.le_of_ble_eq_true rfl) (Nat.le_of_ble_eq_true rfl) rfl rfl (c_cellN ⟨_, rfl, ?_⟩)
      refine ax_iconst dX10_sweep_16 (v := nI 0) (by decide) ?_
      refine ax_iast dX10_sweep_17 e143 (ax_ix_nI (by omega) (by decide)) ?_
      refine ax_iinc dX10_sweep_18 rfl (ax_inc 1) ?_
      refine ax_goto 2 dX10_sweep_21 (by decide) ?_
      rw [nI_add]
      refine ih (i + 1) _ (by omega) (hb.wr rfl) ⟨_, ax_wr_eq, fun j hj => ?_⟩
      rw [← swL_s]
      simp only [upd, upN]
      by_cases h1 : j = 5 * r + i
      · rw [if_pos h1, if_pos h1]
      · rw [if_neg h1, if_neg h1]; exact hg1 j hj
  refine ax_iconst dX10_sweep_0 (v := nI 0) (by decide) ?_
  refine ax_istore_n dX10_sweep_1 (Nat.le_of_ble_eq_true rfl) ?_
  exact loop 5 0 h (by omega) But.rf (by rw [swL_0]; exact a143)
end MR
