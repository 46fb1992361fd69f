/-! ===== the answers of the calls, and LostRoads' simple ones ===== -/
section CA
variable {G : ax_G} {d : Nat} {h : ax_H} {Q : ax_O → ax_H → Prop} {N : Nt} {σ : Sd}
/-- an int as a place among n -/
def ixN (n : Nat) (x : Int32) : Option Nat := if ¬ x < 0 ∧ ¬ nI n ≤ x then some x.toNatClampNeg else none
theorem ix_cases {n : Nat} (hn : n < 2 ^ 31) (x : Int32) : (ixN n x = none ∧ b1 (¬ x < 0 ∧ ¬ nI n ≤ x) = 0 ∧ (x < 0 ∨ nI n ≤ x)) ∨ ∃ j, j < n ∧ x = nI j ∧ ixN n x = some j ∧ b1 (¬ x < 0 ∧ ¬ nI n ≤ x) = 1 := by
  unfold ixN
  by_cases hc : ¬ x < 0 ∧ ¬ nI n ≤ x
  · obtain ⟨j, hj, rfl⟩ := nI_of hc.1
    refine Or.inr ⟨j, ?_, rfl, ?_, b1_t hc⟩
    · rcases Nat.lt_or_ge j n with q | q
      · exact q
      · exact absurd (nI_le q hj) hc.2
    · rw [if_pos hc, nI_clamp hj]
  · rw [if_neg hc]
    refine Or.inl ⟨rfl, b1_f hc, ?_⟩
    by_cases h1 : x < 0
    · exact Or.inl h1
    · exact Or.inr (Decidable.byContradiction fun q => hc ⟨h1, q⟩)
theorem ixN_i {n j : Nat} (hn : n < 2 ^ 31) (hj : j < n) : ixN n (nI j) = some j := by
  unfold ixN
  rw [if_pos ⟨nI_pos (by omega), nI_ge hj hn⟩, nI_clamp (by omega)]
theorem out_of {n : Nat} {x : Int32} (hn : n < 2 ^ 31) (hx : x < 0 ∨ nI (n + 1) ≤ x) (hn1 : n + 1 < 2 ^ 31) : x.toInt < 0 ∨ (n : Int) < x.toInt := by
  rcases hx with q | q
  · left
    have := Int32.lt_iff_toInt_lt.mp q
    simpa using this
  · right
    have := Int32.le_iff_toInt_le.mp q
    rw [nI_toInt hn1] at this
    omega
/-- a number of years -/
def yrs (x : Int32) : Option Nat := if ¬ x < nI 1 ∧ ¬ nI 50 < x then some x.toNatClampNeg else none
theorem yrs_cases (x : Int32) : (yrs x = none ∧ b1 (¬ x < nI 1 ∧ ¬ nI 50 < x) = 0) ∨ ∃ n, 1 ≤ n ∧ n ≤ 50 ∧ x = nI n ∧ yrs x = some n ∧ b1 (¬ x < nI 1 ∧ ¬ nI 50 < x) = 1 := by
  unfold yrs
  by_cases hc : ¬ x < nI 1 ∧ ¬ nI 50 < x
  · have h0 : ¬ x < 0 := fun q => hc.1 (Int32.lt_of_lt_of_le q (nI_pos' (by decide)))
    obtain ⟨j, hj, rfl⟩ := nI_of h0
    refine Or.inr ⟨j, ?_, ?_, rfl, by rw [if_pos hc, nI_clamp hj], b1_t hc⟩
    · rcases Nat.lt_or_ge j 1 with q | q
      · exact absurd (nI_lt q (by omega)) hc.1
      · exact q
    · rcases Nat.lt_or_ge 50 j with q | q
      · exact absurd (nI_lt q (by omega)) hc.2
      · exact q
  · rw [if_neg hc]
    exact Or.inl ⟨rfl, b1_f hc⟩
def qStuff (N : Nt) (σ : Sd) (x w : Int32) : Int32 := match ixN (nS N) x, ixN 3 w with
  | some s, some 0 => nI (N.1 1 s)
  | some s, some 1 => nI (N.1 2 s)
  | some s, some 2 => nI (σ 4 s)
  | _, _ => -1
def qRoad (N : Nt) (σ : Sd) (x w : Int32) : Int32 := match ixN (nR N) x, ixN 7 w with
  | some r, some 0 => nI (N.1 3 r)
  | some r, some 1 => nI (N.1 4 r)
  | some r, some 2 => nI (N.1 5 r)
  | some r, some 3 => nI (σ 1 r)
  | some r, some 4 => nI (mn σ (N.1 1) r)
  | some r, some 5 => nI (mn σ (N.1 2) r)
  | some r, some 6 => if 1000 ≤ σ 1 r then nI 1 else nI 0
  | _, _ => -1
def qSurface (N : Nt) (σ : Sd) (x y : Int32) : Int32 := match ixN (nR N) x, ixN (nS N) y with
  | some r, some s => nI (σ 2 (5 * r + s))
  | _, _ => -1
def qTrade (N : Nt) (σ : Sd) (x w : Int32) : Int32 := match ixN (nT N) x, ixN 6 w with
  | some t, some 0 => nI (N.1 6 t)
  | some t, some 1 => nI (N.1 7 t)
  | some t, some 2 => nI (N.1 8 t)
  | some t, some 3 => nI (N.1 9 t)
  | some t, some 4 => nI (σ 5 t) - nI 1
  | some t, some 5 => nI (σ 6 t)
  | _, _ => -1
def qShock (N : Nt) (σ : Sd) (x y : Int32) : Int32 := match ixN (nR N) x, ixN (nS N) y with
  | some r, some s => nI (shock N σ r s)
  | _, _ => -1
theorem lt3 {j : Nat} (h : j < 3) : j = 0 ∨ j = 1 ∨ j = 2 := by omega
theorem c_stuff {x w : Int32} (hN : nOK N) (hC : Cs h N σ) (hq : Q (.inl (some (.int (qStuff N σ x w)))) h) : X G (d + 1) mX11_stuff 0 (ax_in 3 [.ref 64, .int x, .int w]) [] h Q := by
  obtain ⟨⟨dr, e64⟩, ⟨⟨co, hl, e89, -⟩, ⟨f1, e92, q1⟩, ⟨f2, e93, q2⟩, -⟩, ⟨e106, -, -, -, ⟨f4, e110, q4⟩, -⟩, -⟩ := id hC
  have hS5 := hN.1
  refine ax_aload_n dX11_stuff_0 rfl ?_
  refine ax_iload_n dX11_stuff_1 rfl ?_
  refine ax_cV dX11_stuff_2 mmX11_isStuff lkX11_118 miX11_isStuff msX11_isStuff (ax_recv_of e64 rfl) rfl rfl (Nat.le_of_ble_eq_true rfl) (Nat.le_of_ble_eq_true rfl) rfl rfl (c_isStuff e64 e89 ⟨_, rfl, ?_⟩)
  rcases ix_cases (n := nS N) (by omega) x with ⟨hs, hb, -⟩ | ⟨s, hs5, rfl, hs, hb⟩
  · unfold qStuff at hq
    rw [hs] at hq
    rw [hb]
    refine ax_if_neF 10 dX11_stuff_5 (by decide) rfl ?_
    refine ax_iconst dX11_stuff_8 (v := -1) (by decide) ?_
    exact ax_ireturn dX11_stuff_9 rfl hq
  · unfold qStuff at hq
    rw [hs] at hq
    rw [hb]
    refine ax_if_neT 10 dX11_stuff_5 (by decide) (by decide) ?_
    refine ax_iload_n dX11_stuff_10 rfl ?_
    rcases ix_cases (n := 3) (by omega) w with ⟨hw, -, ho⟩ | ⟨j, hj, rfl, hw, -⟩
    · rw [hw] at hq
      refine ax_tableOut 66 dX11_stuff_11 (out_of (n := 2) (by decide) ho (by decide)) (by decide) ?_
      refine ax_iconst dX11_stuff_66 (v := -1) (by decide) ?_
      exact ax_ireturn dX11_stuff_67 rfl hq
    · rw [hw] at hq
      rcases lt3 hj with rfl | rfl | rfl
      · refine ax_tableIn 36 dX11_stuff_11 (by decide) (by decide) rfl (by decide) ?_
        refine ax_aload_n dX11_stuff_36 rfl ?_
        refine ax_getf dX11_stuff_37 flX11_39 e64 rfl ?_
        refine ax_getf dX11_stuff_40 flX11_122 e89 rfl ?_
        refine ax_iload_n dX11_stuff_43 rfl ?_
        refine ax_iald dX11_stuff_44 e92 (ax_ix_nI (by omega) (by decide)) ?_
        rw [q1 s (by omega)]
        exact ax_ireturn dX11_stuff_45 rfl hq
      · refine ax_tableIn 46 dX11_stuff_11 (by decide) (by decide) rfl (by decide) ?_
        refine ax_aload_n dX11_stuff_46 rfl ?_
        refine ax_getf dX11_stuff_47 flX11_39 e64 rfl ?_
        refine ax_getf dX11_stuff_50 flX11_126 e89 rfl ?_
        refine ax_iload_n dX11_stuff_53 rfl ?_
        refine ax_iald dX11_stuff_54 e93 (ax_ix_nI (by omega) (by decide)) ?_
        rw [q2 s (by omega)]
        exact ax_ireturn dX11_stuff_55 rfl hq
      · refine ax_tableIn 56 dX11_stuff_11 (by decide) (by decide) rfl (by decide) ?_
        refine ax_aload_n dX11_stuff_56 rfl ?_
        refine ax_getf dX11_stuff_57 flX11_47 e64 rfl ?_
        refine ax_getf dX11_stuff_60 flX11_129 e106 rfl ?_
        refine ax_iload_n dX11_stuff_63 rfl ?_
        refine ax_iald dX11_stuff_64 e110 (ax_ix_nI (by omega) (by decide)) ?_
        rw [q4 s (by omega)]
        exact ax_ireturn dX11_stuff_65 rfl hq
end CA
