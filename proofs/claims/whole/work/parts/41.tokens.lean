/-! ===== Token, Tape's questions, Tokens ===== -/
section TO
variable {G : ax_G} {d : Nat} {h : ax_H} {Q : ax_O → ax_H → Prop}
/-- the constant of a key: the first that has it, else a name, else nothing -/
def kof (key : Int64) : Nat := match fst (fun i => tk_key.getD i 0 == key) 0 31 with
  | some i => i
  | none => if lg_cmp key 0 ≤ 0 then 1 else 3
theorem kof_lt (key : Int64) : kof key < 31 := by
  unfold kof
  split
  · rename_i i hi
    have := fst_lt hi
    omega
  · split <;> omega
theorem lg_cmp0 {x y : Int64} : lg_cmp x y = 0 ↔ x = y := by
  unfold lg_cmp
  by_cases h1 : x > y
  · rw [if_pos h1]
    exact ⟨fun q => absurd q (by decide), fun q => by rw [q] at h1; exact (Int64.lt_irrefl h1).elim⟩
  · rw [if_neg h1]
    by_cases h2 : x = y
    · rw [if_pos h2]; exact ⟨fun _ => h2, fun _ => rfl⟩
    · rw [if_neg h2]; exact ⟨fun q => absurd q (by decide), fun q => absurd q h2⟩
theorem c_of {key : Int64} (hq : Q (.inl (some (.ref (kof key)))) h) : X G d mX6_of 0 (ax_in 3 [.long key]) [] h Q := by
  have loop : ∀ (m i : Nat), i + m = 31 → fst (fun i => tk_key.getD i 0 == key) i m = fst (fun i => tk_key.getD i 0 == key) 0 31 → X G d mX6_of 2 [some (.long key), none, some (.int (nI i))] [] h Q := by
    intro m
    induction m with
    | zero =>
      intro i hi hf
      obtain rfl : i = 31 := by omega
      have hf' : fst (fun i => tk_key.getD i 0 == key) 0 31 = none := hf.symm
      unfold kof at hq
      rw [hf'] at hq
      dsimp only at hq
      refine ax_iload_n dX6_of_2 rfl ?_
      refine ax_gets (k := 31) dX6_of_3 (by decide) slX6_146 ax_alZ ?_
      refine ax_lenO dX6_of_6 ?_
      refine ax_icmp_geT 35 dX6_of_7 (by decide) (by decide) ?_
      refine ax_lload_n dX6_of_35 rfl ?_
      refine ax_lconst dX6_of_36 (v := lN 0) (by decide) ?_
      refine ax_lcmp dX6_of_37 ?_
      by_cases hc : lg_cmp key 0 ≤ 0
      · rw [if_pos hc] at hq
        refine ax_if_leT 47 dX6_of_38 (by decide) hc ?_
        refine ax_gets (k := 1) dX6_of_47 (by decide) slX6_9 (ax_tkZ (by decide) rfl) ?_
        exact ax_areturn dX6_of_50 rfl hq
      · rw [if_neg hc] at hq
        refine ax_if_leF 47 dX6_of_38 (by decide) hc ?_
        refine ax_gets (k := 3) dX6_of_41 (by decide) slX6_15 (ax_tkZ (by decide) rfl) ?_
        refine ax_goto 50 dX6_of_44 (by decide) ?_
        exact ax_areturn dX6_of_50 rfl hq
    | succ m ih =>
      intro i hi hf
      refine ax_iload_n dX6_of_2 rfl ?_
      refine ax_gets (k := 31) dX6_of_3 (by decide) slX6_146 ax_alZ ?_
      refine ax_lenO dX6_of_6 ?_
      refine ax_icmp_geF 35 dX6_of_7 (by decide) (nI_ge (by omega) (by omega)) ?_
      refine ax_gets (k := 31) dX6_of_10 (by decide) slX6_146 ax_alZ ?_
      refine ax_iload_n dX6_of_13 rfl ?_
      refine ax_aldO dX6_of_14 (ax_ix_nI (j := i) (by omega) (by decide)) ?_
      refine ax_getO dX6_of_15 (by omega) slX6_125 (ax_tkK (by omega)) (fun _ => rfl) ?_
      refine ax_lload_n dX6_of_18 rfl ?_
      refine ax_lcmp dX6_of_19 ?_
      by_cases hc : tk_key.getD i 0 = key
      · refine ax_if_neF 29 dX6_of_20 (by decide) (lg_cmp0.mpr hc) ?_
        refine ax_gets (k := 31) dX6_of_23 (by decide) slX6_146 ax_alZ ?_
        refine ax_iload_n dX6_of_26 rfl ?_
        refine ax_aldO dX6_of_27 (ax_ix_nI (j := i) (by omega) (by decide)) ?_
        refine ax_areturn dX6_of_28 rfl ?_
        unfold kof at hq
        rw [← hf] at hq
        unfold fst at hq
        rw [if_pos (by rw [hc]; exact beq_self_eq_true key)] at hq
        exact hq
      · refine ax_if_neT 29 dX6_of_20 (by decide) (fun q => hc (lg_cmp0.mp q)) ?_
        refine ax_iinc dX6_of_29 rfl (ax_inc 1) ?_
        refine ax_goto 2 dX6_of_32 (by decide) ?_
        rw [nI_add]
        refine ih (i + 1) (by omega) ?_
        rw [← hf]
        conv => rhs; unfold fst
        rw [if_neg (fun q => hc (eq_of_beq q))]
  refine ax_iconst dX6_of_0 (v := nI 0) (by decide) ?_
  refine ax_istore_n dX6_of_1 (Nat.le_of_ble_eq_true rfl) ?_
  exact loop 31 0 rfl rfl
/-- a key with a sign more -/
def lgr (key : Int64) (c : Nat) : Int64 := if 97 ≤ c ∧ c ≤ 122 then (key <<< ((nI 5).toInt64 &&& 63)) ||| (nI c - nI 97 + nI 1).toInt64 else (-(nI c)).toInt64
theorem c_longer {key : Int64} {c : Nat} (hc : c < 256) (hq : Q (.inl (some (.long (lgr key c)))) h) : X G d mX6_longer 0 (ax_in 3 [.long key, .int (nI c)]) [] h Q := by
  unfold lgr at hq
  by_cases h1 : 97 ≤ c
  · refine ax_iload_n dX6_longer_0 rfl ?_
    refine ax_bipush dX6_longer_1 (v := nI 97) (by decide) ?_
    refine ax_icmp_ltF 26 dX6_longer_3 (by decide) (nI_nlt h1 (by omega)) ?_
    by_cases h2 : c ≤ 122
    · rw [if_pos ⟨h1, h2⟩] at hq
      refine ax_iload_n dX6_longer_6 rfl ?_
      refine ax_bipush dX6_longer_7 (v := nI 122) (by decide) ?_
      refine ax_icmp_gtF 26 dX6_longer_9 (by decide) (nI_nlt h2 (by omega)) ?_
      refine ax_lload_n dX6_longer_12 rfl ?_
      refine ax_iconst dX6_longer_13 (v := nI 5) (by decide) ?_
      refine ax_lshl dX6_longer_14 ?_
      refine ax_iload_n dX6_longer_15 rfl ?_
      refine ax_bipush dX6_longer_16 (v := nI 97) (by decide) ?_
      refine ax_isub dX6_longer_18 ?_
      refine ax_iconst dX6_longer_19 (v := nI 1) (by decide) ?_
      refine ax_iadd dX6_longer_20 ?_
      refine ax_i2l dX6_longer_21 ?_
      refine ax_lor dX6_longer_22 ?_
      refine ax_goto 29 dX6_longer_23 (by decide) ?_
      exact ax_lreturn dX6_longer_29 rfl hq
    · rw [if_neg (fun q => h2 q.2)] at hq
      refine ax_iload_n dX6_longer_6 rfl ?_
      refine ax_bipush dX6_longer_7 (v := nI 122) (by decide) ?_
      refine ax_icmp_gtT 26 dX6_longer_9 (by decide) (nI_lt (by omega) (by omega)) ?_
      refine ax_iload_n dX6_longer_26 rfl ?_
      refine ax_ineg dX6_longer_27 ?_
      refine ax_i2l dX6_longer_28 ?_
      exact ax_lreturn dX6_longer_29 rfl hq
  · rw [if_neg (fun q => h1 q.1)] at hq
    refine ax_iload_n dX6_longer_0 rfl ?_
    refine ax_bipush dX6_longer_1 (v := nI 97) (by decide) ?_
    refine ax_icmp_ltT 26 dX6_longer_3 (by decide) (nI_lt (by omega) (by omega)) ?_
    refine ax_iload_n dX6_longer_26 rfl ?_
    refine ax_ineg dX6_longer_27 ?_
    refine ax_i2l dX6_longer_28 ?_
    exact ax_lreturn dX6_longer_29 rfl hq
theorem c_isName {k : Nat} (hk : k < 31) (hq : Q (.inl (some (.int (b1 (k = 3 ∨ k = 28 ∨ k = 29 ∨ k = 30))))) h) : X G d mX6_isName 0 (ax_in 1 [.ref k]) [] h Q := by
  refine ax_aload_n dX6_isName_0 rfl ?_
  refine ax_gets (k := 3) dX6_isName_1 (by decide) slX6_15 (ax_tkZ (by decide) rfl) ?_
  refine ax_acmpE 28 dX6_isName_4 (by decide) (by omega) (by omega) (fun h3 => ?_) (fun h3 => ?_)
  · rw [b1_t (Or.inl h3)] at hq
    refine ax_iconst dX6_isName_28 (v := nI 1) (by decide) ?_
    refine ax_goto 33 dX6_isName_29 (by decide) ?_
    exact ax_zreturn dX6_isName_33 rfl (Or.inr rfl) hq
  · refine ax_aload_n dX6_isName_7 rfl ?_
    refine ax_gets (k := 28) dX6_isName_8 (by decide) slX6_90 (ax_tkZ (by decide) rfl) ?_
    refine ax_acmpE 28 dX6_isName_11 (by decide) (by omega) (by omega) (fun h4 => ?_) (fun h4 => ?_)
    · rw [b1_t (by omega)] at hq
      refine ax_iconst dX6_isName_28 (v := nI 1) (by decide) ?_
      refine ax_goto 33 dX6_isName_29 (by decide) ?_
      exact ax_zreturn dX6_isName_33 rfl (Or.inr rfl) hq
    · refine ax_aload_n dX6_isName_14 rfl ?_
      refine ax_gets (k := 29) dX6_isName_15 (by decide) slX6_93 (ax_tkZ (by decide) rfl) ?_
      refine ax_acmpE 28 dX6_isName_18 (by decide) (by omega) (by omega) (fun h5 => ?_) (fun h5 => ?_)
      · rw [b1_t (by omega)] at hq
        refine ax_iconst dX6_isName_28 (v := nI 1) (by decide) ?_
        refine ax_goto 33 dX6_isName_29 (by decide) ?_
        exact ax_zreturn dX6_isName_33 rfl (Or.inr rfl) hq
      · refine ax_aload_n dX6_isName_21 rfl ?_
        refine ax_gets (k := 30) dX6_isName_22 (by decide) slX6_96 (ax_tkZ (by decide) rfl) ?_
        refine ax_acmpN 32 dX6_isName_25 (by decide) (by omega) (by omega) (fun h6 => ?_) (fun h6 => ?_)
        · rw [b1_f (by omega)] at hq
          refine ax_iconst dX6_isName_32 (v := nI 0) (by decide) ?_
          exact ax_zreturn dX6_isName_33 rfl (Or.inl rfl) hq
        · rw [b1_t (by omega)] at hq
          refine ax_iconst dX6_isName_28 (v := nI 1) (by decide) ?_
          refine ax_goto 33 dX6_isName_29 (by decide) ?_
          exact ax_zreturn dX6_isName_33 rfl (Or.inr rfl) hq
/-- a fact that a law may name -/
def fIn (l k : Nat) : Int32 := if l = 0 then tk_way.getD k 0 else if l = 1 then tk_shock.getD k 0 else tk_mend.getD k 0
theorem fIn01 : ∀ l : Nat, ∀ k : Nat, k < 31 → fIn l k = 0 ∨ fIn l k = 1 := by
  intro l k hk
  have h1 : ∀ k : Nat, k < 31 → (tk_way.getD k 0 = 0 ∨ tk_way.getD k 0 = 1) ∧ (tk_shock.getD k 0 = 0 ∨ tk_shock.getD k 0 = 1) ∧ (tk_mend.getD k 0 = 0 ∨ tk_mend.getD k 0 = 1) := by decide +kernel
  obtain ⟨a, b, c⟩ := h1 k hk
  unfold fIn
  split
  · exact a
  · split
    · exact b
    · exact c
theorem c_isFactIn {k l : Nat} (hk : k < 31) (hl : l < 3) (hq : Q (.inl (some (.int (fIn l k)))) h) : X G d mX6_isFactIn 0 (ax_in 2 [.ref k, .int (nI l)]) [] h Q := by
  have h01 := fIn01 l k hk
  unfold fIn at hq h01
  rcases lt3 hl with rfl | rfl | rfl
  · refine ax_iload_n dX6_isFactIn_0 rfl ?_
    refine ax_if_neF 11 dX6_isFactIn_1 (by decide) rfl ?_
    refine ax_aload_n dX6_isFactIn_4 rfl ?_
    refine ax_getO dX6_isFactIn_5 (by omega) slX6_136 (ax_tkF (q := ("LostRoads$Token", "inWay", "Z", tk_way)) (by omega) (by decide)) (fun _ => rfl) ?_
    refine ax_goto 27 dX6_isFactIn_8 (by decide) ?_
    exact ax_zreturn dX6_isFactIn_27 rfl (h01) hq
  · refine ax_iload_n dX6_isFactIn_0 rfl ?_
    refine ax_if_neT 11 dX6_isFactIn_1 (by decide) (by decide) ?_
    refine ax_iload_n dX6_isFactIn_11 rfl ?_
    refine ax_iconst dX6_isFactIn_12 (v := nI 1) (by decide) ?_
    refine ax_icmp_neF 23 dX6_isFactIn_13 (by decide) rfl ?_
    refine ax_aload_n dX6_isFactIn_16 rfl ?_
    refine ax_getO dX6_isFactIn_17 (by omega) slX6_140 (ax_tkF (q := ("LostRoads$Token", "inShock", "Z", tk_shock)) (by omega) (by decide)) (fun _ => rfl) ?_
    refine ax_goto 27 dX6_isFactIn_20 (by decide) ?_
    exact ax_zreturn dX6_isFactIn_27 rfl (h01) hq
  · refine ax_iload_n dX6_isFactIn_0 rfl ?_
    refine ax_if_neT 11 dX6_isFactIn_1 (by decide) (by decide) ?_
    refine ax_iload_n dX6_isFactIn_11 rfl ?_
    refine ax_iconst dX6_isFactIn_12 (v := nI 1) (by decide) ?_
    refine ax_icmp_neT 23 dX6_isFactIn_13 (by decide) (by decide) ?_
    refine ax_aload_n dX6_isFactIn_23 rfl ?_
    refine ax_getO dX6_isFactIn_24 (by omega) slX6_143 (ax_tkF (q := ("LostRoads$Token", "inMend", "Z", tk_mend)) (by omega) (by decide)) (fun _ => rfl) ?_
    exact ax_zreturn dX6_isFactIn_27 rfl (h01) hq
end TO
