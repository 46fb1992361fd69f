section CA5
variable {G : ax_G} {d : Nat} {h : ax_H} {Q : ax_O → ax_H → Prop} {N : Nt} {σ : Sd}
/-- the first least of f below k -/
def tb (f : Nat → Nat) : Nat → Option (Nat × Nat)
  | 0 => none
  | k + 1 => match tb f k with
    | none => some (k, f k)
    | some a => if f k < a.2 then some (k, f k) else some a
def tbO : Option (Nat × Nat) → Int32
  | none => -1
  | some a => nI a.1
def tbF : Option (Nat × Nat) → Int32
  | none => nI 0
  | some a => nI a.2
def qTable (N : Nt) (σ : Sd) (x y : Int32) : Int32 := match yrs y with
  | none => -1
  | some n => if x = -1 then tbO (tb (fun s => hA N σ (trC (trN N) s) (nT N) n none) (nS N)) else match ixN (nS N) x with
    | none => -1
    | some s => nI (hA N σ (trC (trN N) s) (nT N) n none)
theorem hT_le (N : Nt) (τ : Sd) : hT N τ ≤ nR N * 1000 := sm_le (fun r _ => Nat.min_le_right _ _)
theorem tb_le {f : Nat → Nat} : ∀ (k : Nat) (a : Nat × Nat), tb f k = some a → a.1 < k ∧ a.2 = f a.1
  | 0, a, h => by cases h
  | k + 1, a, h => by
    unfold tb at h
    split at h
    · cases h; exact ⟨by omega, rfl⟩
    · rename_i b hb
      split at h
      · cases h; exact ⟨by omega, rfl⟩
      · cases h
        have := tb_le k _ hb
        exact ⟨by omega, this.2⟩
theorem c_table {x w : Int32} {b y : Nat} (hN : nOK N) (hB : Bd N σ b y) (hb0 : 5300 ≤ b) (hb1 : b < 100000) (hy : y + 50 ≤ 28000) (hC : Cs h N σ) (hq : ∀ h', But h h' trP → Cs h' N σ → Q (.inl (some (.int (qTable N σ x w)))) h') : X G (d + 7) mX11_table 0 (ax_in 7 [.ref 64, .int x, .int w]) [] h Q := by
  obtain ⟨⟨dr, e64⟩, ⟨⟨co, hl, e89, -⟩, -⟩, -⟩ := id hC
  have hS5 := hN.1
  have hR := hN.2.2.1
  refine ax_iload_n dX11_table_0 rfl ?_
  refine ax_cS dX11_table_1 mmX11_isYears lkX11_213 mtX11_isYears rfl rfl (Nat.le_of_ble_eq_true rfl) (Nat.le_of_ble_eq_true rfl) rfl rfl (c_isYears ⟨_, rfl, ?_⟩)
  unfold qTable at hq
  rcases yrs_cases w with ⟨hw, hb⟩ | ⟨n, hn1, hn50, rfl, hw, hb⟩
  · rw [hw] at hq
    rw [hb]
    refine ax_if_eqT 23 dX11_table_4 (by decide) rfl ?_
    refine ax_iconst dX11_table_23 (v := -1) (by decide) ?_
    exact ax_ireturn dX11_table_24 rfl (hq _ But.rf hC)
  · rw [hw] at hq
    rw [hb]
    dsimp only at hq
    refine ax_if_eqF 23 dX11_table_4 (by decide) (by decide) ?_
    by_cases hx : x = -1
    · rw [if_pos hx] at hq
      subst hx
      have hle : ∀ s, hA N σ (trC (trN N) s) (nT N) n none < 2 ^ 30 := fun s => by
        have := hT_le N (yN N 0 (trC (trN N) s) (nT N) none σ n)
        show hT N _ < _
        omega
      have loop : ∀ (m i : Nat) (h1 : ax_H) (o6 : Option Value), i + m = nS N → But h h1 trP → Cs h1 N σ → X G (d + 7) mX11_table 45 [some (.ref 64), some (.int (-1)), some (.int (nI n)), some (.int (tbO (tb (fun s => hA N σ (trC (trN N) s) (nT N) n none) i))), some (.int (tbF (tb (fun s => hA N σ (trC (trN N) s) (nT N) n none) i))), some (.int (nI i)), o6] [] h1 Q := by
        intro m
        induction m with
        | zero =>
          intro i h1 o6 hi hbb hC1
          obtain rfl : i = nS N := by omega
          obtain ⟨⟨dr, e64⟩, ⟨⟨co, hl, e89, -⟩, -⟩, -⟩ := id hC1
          refine ax_iload dX11_table_45 rfl ?_
          refine ax_aload_n dX11_table_47 rfl ?_
          refine ax_getf dX11_table_48 flX11_39 e64 rfl ?_
          refine ax_getf dX11_table_51 flX11_242 e89 rfl ?_
          refine ax_icmp_geT 91 dX11_table_54 (by decide) (Int32.le_refl _) ?_
          refine ax_iload_n dX11_table_91 rfl ?_
          exact ax_ireturn dX11_table_92 rfl (hq _ hbb hC1)
        | succ m ih =>
          intro i h1 o6 hi hbb hC1
          obtain ⟨⟨dr, e64⟩, ⟨⟨co, hl, e89, -⟩, -⟩, -⟩ := id hC1
          have ht := tb_le (f := fun s => hA N σ (trC (trN N) s) (nT N) n none) i
          have hstep : tb (fun s => hA N σ (trC (trN N) s) (nT N) n none) (i + 1) = match tb (fun s => hA N σ (trC (trN N) s) (nT N) n none) i with
            | none => some (i, hA N σ (trC (trN N) i) (nT N) n none)
            | some a => if hA N σ (trC (trN N) i) (nT N) n none < a.2 then some (i, hA N σ (trC (trN N) i) (nT N) n none) else some a := rfl
          refine ax_iload dX11_table_45 rfl ?_
          refine ax_aload_n dX11_table_47 rfl ?_
          refine ax_getf dX11_table_48 flX11_39 e64 rfl ?_
          refine ax_getf dX11_table_51 flX11_242 e89 rfl ?_
          refine ax_icmp_geF 91 dX11_table_54 (by decide) (nI_ge (by omega) (by omega)) ?_
          refine ax_aload_n dX11_table_57 rfl ?_
          refine ax_iload dX11_table_58 rfl ?_
          refine ax_iload_n dX11_table_60 rfl ?_
          refine ax_cV dX11_table_61 mmX11_holesIfAllCarry lkX11_245 miX11_holesIfAllCarry msX11_holesIfAllCarry (ax_recv_of e64 rfl) rfl rfl (Nat.le_of_ble_eq_true rfl) (Nat.le_of_ble_eq_true rfl) rfl rfl (c_holesIfAllCarry (d := d) (by omega) hN hB hb0 hb1 (by omega) hC1 (fun h2 hb2 hC2 => ⟨_, rfl, ?_⟩))
          refine ax_istore dX11_table_64 (Nat.le_of_ble_eq_true rfl) ?_
          cases htb : tb (fun s => hA N σ (trC (trN N) s) (nT N) n none) i with
          | none =>
            rw [htb] at hstep
            dsimp only at hstep
            refine ax_iload_n dX11_table_66 rfl ?_
            refine ax_iconst dX11_table_67 (v := -1) (by decide) ?_
            refine ax_icmp_eqT 78 dX11_table_68 (by decide) rfl ?_
            refine ax_iload dX11_table_78 rfl ?_
            refine ax_istore_n dX11_table_80 (Nat.le_of_ble_eq_true rfl) ?_
            refine ax_iload dX11_table_81 rfl ?_
            refine ax_istore dX11_table_83 (Nat.le_of_ble_eq_true rfl) ?_
            refine ax_iinc dX11_table_85 rfl (ax_inc 1) ?_
            refine ax_goto 45 dX11_table_88 (by decide) ?_
            rw [nI_add]
            have key := ih (i + 1) h2 (some (.int (nI (hA N σ (trC (trN N) i) (nT N) n none)))) (by omega) (hbb.tr hb2) hC2
            rw [hstep] at key
            exact key
          | some a =>
            rw [htb] at hstep
            dsimp only at hstep
            obtain ⟨z1, z2⟩ := ht a htb
            have z3 : a.2 < 2 ^ 30 := by rw [z2]; exact hle _
            refine ax_iload_n dX11_table_66 rfl ?_
            refine ax_iconst dX11_table_67 (v := -1) (by decide) ?_
            refine ax_icmp_eqF 78 dX11_table_68 (by decide) (fun q => absurd (show nI a.1 < 0 by rw [show nI a.1 = -1 from q]; decide) (nI_pos (by omega))) ?_
            by_cases hc : hA N σ (trC (trN N) i) (nT N) n none < a.2
            · rw [if_pos hc] at hstep
              refine ax_iload dX11_table_71 rfl ?_
              refine ax_iload dX11_table_73 rfl ?_
              refine ax_icmp_geF 85 dX11_table_75 (by decide) (nI_ge hc (by omega)) ?_
              refine ax_iload dX11_table_78 rfl ?_
              refine ax_istore_n dX11_table_80 (Nat.le_of_ble_eq_true rfl) ?_
              refine ax_iload dX11_table_81 rfl ?_
              refine ax_istore dX11_table_83 (Nat.le_of_ble_eq_true rfl) ?_
              refine ax_iinc dX11_table_85 rfl (ax_inc 1) ?_
              refine ax_goto 45 dX11_table_88 (by decide) ?_
              rw [nI_add]
              have key := ih (i + 1) h2 (some (.int (nI (hA N σ (trC (trN N) i) (nT N) n none)))) (by omega) (hbb.tr hb2) hC2
              rw [hstep] at key
              exact key
            · rw [if_neg hc] at hstep
              have := hle i
              refine ax_iload dX11_table_71 rfl ?_
              refine ax_iload dX11_table_73 rfl ?_
              refine ax_icmp_geT 85 dX11_table_75 (by decide) (nI_le (by omega) (by omega)) ?_
              refine ax_iinc dX11_table_85 rfl (ax_inc 1) ?_
              refine ax_goto 45 dX11_table_88 (by decide) ?_
              rw [nI_add]
              have key := ih (i + 1) h2 (some (.int (nI (hA N σ (trC (trN N) i) (nT N) n none)))) (by omega) (hbb.tr hb2) hC2
              rw [hstep] at key
              exact key
      refine ax_iload_n dX11_table_7 rfl ?_
      refine ax_iconst dX11_table_8 (v := -1) (by decide) ?_
      refine ax_icmp_ltF 23 dX11_table_9 (by decide) (by decide) ?_
      refine ax_iload_n dX11_table_12 rfl ?_
      refine ax_aload_n dX11_table_13 rfl ?_
      refine ax_getf dX11_table_14 flX11_39 e64 rfl ?_
      refine ax_getf dX11_table_17 flX11_242 e89 rfl ?_
      refine ax_icmp_ltT 25 dX11_table_20 (by decide) (Int32.lt_of_lt_of_le (by decide) (nI_pos' (n := nS N) (by omega))) ?_
      refine ax_iload_n dX11_table_25 rfl ?_
      refine ax_iconst dX11_table_26 (v := -1) (by decide) ?_
      refine ax_icmp_eqT 37 dX11_table_27 (by decide) rfl ?_
      refine ax_iconst dX11_table_37 (v := -1) (by decide) ?_
      refine ax_istore_n dX11_table_38 (Nat.le_of_ble_eq_true rfl) ?_
      refine ax_iconst dX11_table_39 (v := nI 0) (by decide) ?_
      refine ax_istore dX11_table_40 (Nat.le_of_ble_eq_true rfl) ?_
      refine ax_iconst dX11_table_42 (v := nI 0) (by decide) ?_
      refine ax_istore dX11_table_43 (Nat.le_of_ble_eq_true rfl) ?_
      exact loop (nS N) 0 h none (by omega) But.rf hC
    · rw [if_neg hx] at hq
      rcases ix_cases (n := nS N) (by omega) x with ⟨hs, hb, ho⟩ | ⟨s, hs', rfl, hs, hb⟩
      · rw [hs] at hq
        by_cases h1 : x < -1
        · refine ax_iload_n dX11_table_7 rfl ?_
          refine ax_iconst dX11_table_8 (v := -1) (by decide) ?_
          refine ax_icmp_ltT 23 dX11_table_9 (by decide) h1 ?_
          refine ax_iconst dX11_table_23 (v := -1) (by decide) ?_
          exact ax_ireturn dX11_table_24 rfl (hq _ But.rf hC)
        · have h2 : ¬ x < 0 := fun q => by
            have q1 := Int32.lt_iff_toInt_lt.mp q
            have q2 := Int32.not_lt.mp h1
            have q3 := Int32.le_iff_toInt_le.mp q2
            have q4 : (-1 : Int32).toInt = -1 := by decide
            have q5 : (0 : Int32).toInt = 0 := by decide
            rw [q4] at q3
            rw [q5] at q1
            exact hx (Int32.toInt_inj.mp (by rw [q4]; omega))
          have h3 : nI (nS N) ≤ x := ho.resolve_left h2
          refine ax_iload_n dX11_table_7 rfl ?_
          refine ax_iconst dX11_table_8 (v := -1) (by decide) ?_
          refine ax_icmp_ltF 23 dX11_table_9 (by decide) h1 ?_
          refine ax_iload_n dX11_table_12 rfl ?_
          refine ax_aload_n dX11_table_13 rfl ?_
          refine ax_getf dX11_table_14 flX11_39 e64 rfl ?_
          refine ax_getf dX11_table_17 flX11_242 e89 rfl ?_
          refine ax_icmp_ltF 25 dX11_table_20 (by decide) (Int32.not_lt.mpr h3) ?_
          refine ax_iconst dX11_table_23 (v := -1) (by decide) ?_
          exact ax_ireturn dX11_table_24 rfl (hq _ But.rf hC)
      · rw [hs] at hq
        refine ax_iload_n dX11_table_7 rfl ?_
        refine ax_iconst dX11_table_8 (v := -1) (by decide) ?_
        refine ax_icmp_ltF 23 dX11_table_9 (by decide) (fun q => absurd (Int32.lt_of_lt_of_le q (show (-1 : Int32) ≤ 0 by decide)) (nI_pos (by omega))) ?_
        refine ax_iload_n dX11_table_12 rfl ?_
        refine ax_aload_n dX11_table_13 rfl ?_
        refine ax_getf dX11_table_14 flX11_39 e64 rfl ?_
        refine ax_getf dX11_table_17 flX11_242 e89 rfl ?_
        refine ax_icmp_ltT 25 dX11_table_20 (by decide) (nI_lt hs' (by omega)) ?_
        refine ax_iload_n dX11_table_25 rfl ?_
        refine ax_iconst dX11_table_26 (v := -1) (by decide) ?_
        refine ax_icmp_eqF 37 dX11_table_27 (by decide) hx ?_
        refine ax_aload_n dX11_table_30 rfl ?_
        refine ax_iload_n dX11_table_31 rfl ?_
        refine ax_iload_n dX11_table_32 rfl ?_
        refine ax_cV dX11_table_33 mmX11_holesIfAllCarry lkX11_245 miX11_holesIfAllCarry msX11_holesIfAllCarry (ax_recv_of e64 rfl) rfl rfl (Nat.le_of_ble_eq_true rfl) (Nat.le_of_ble_eq_true rfl) rfl rfl (c_holesIfAllCarry (d := d) hs' hN hB hb0 hb1 (by omega) hC (fun h2 hb2 hC2 => ⟨_, rfl, ?_⟩))
        exact ax_ireturn dX11_table_36 rfl (hq _ hb2 hC2)
def qCount (N : Nt) (σ : Sd) (len : Nat) (x : Int32) : Int32 := match ixN 8 x with
  | some 0 => nI (nS N)
  | some 1 => nI (nP N)
  | some 2 => nI (nR N)
  | some 3 => nI (nT N)
  | some 4 => nI (σ 0 0)
  | some 5 => nI (wR N σ)
  | some 6 => nI (hT N σ)
  | some 7 => nI len
  | _ => -1
theorem c_count {x : Int32} {len : Nat} (hN : nOK N) (hO : sOK N σ) (e65 : h.2.2 65 = some (eTape (nI len))) (hC : Cs h N σ) (hq : Q (.inl (some (.int (qCount N σ len x)))) h) : X G (d + 2) mX11_count 0 (ax_in 2 [.ref 64, .int x]) [] h Q := by
  obtain ⟨⟨dr, e64⟩, hL, hE, -⟩ := id hC
  obtain ⟨⟨co, hl, e89, -⟩, -, -, -, -, -, e98, -⟩ := id hL
  obtain ⟨e106, -⟩ := id hE
  unfold qCount at hq
  refine ax_iload_n dX11_count_0 rfl ?_
  rcases ix_cases (n := 8) (by omega) x with ⟨hw, -, ho⟩ | ⟨j, hj, rfl, hw, -⟩
  · rw [hw] at hq
    refine ax_tableOut 117 dX11_count_1 (out_of (n := 7) (by decide) ho (by decide)) (by decide) ?_
    refine ax_iconst dX11_count_117 (v := -1) (by decide) ?_
    exact ax_ireturn dX11_count_118 rfl hq
  · rw [hw] at hq
    rcases lt8 hj with rfl | rfl | rfl | rfl | rfl | rfl | rfl | rfl
    · refine ax_tableIn 48 dX11_count_1 (by decide) (by decide) rfl (by decide) ?_
      refine ax_aload_n dX11_count_48 rfl ?_
      refine ax_getf dX11_count_49 flX11_39 e64 rfl ?_
      refine ax_getf dX11_count_52 flX11_242 e89 rfl ?_
      exact ax_ireturn dX11_count_55 rfl hq
    · refine ax_tableIn 56 dX11_count_1 (by decide) (by decide) rfl (by decide) ?_
      refine ax_aload_n dX11_count_56 rfl ?_
      refine ax_getf dX11_count_57 flX11_39 e64 rfl ?_
      refine ax_getf dX11_count_60 flX11_295 e89 rfl ?_
      exact ax_ireturn dX11_count_63 rfl hq
    · refine ax_tableIn 64 dX11_count_1 (by decide) (by decide) rfl (by decide) ?_
      refine ax_aload_n dX11_count_64 rfl ?_
      refine ax_getf dX11_count_65 flX11_39 e64 rfl ?_
      refine ax_getf dX11_count_68 flX11_279 e89 rfl ?_
      exact ax_ireturn dX11_count_71 rfl hq
    · refine ax_tableIn 72 dX11_count_1 (by decide) (by decide) rfl (by decide) ?_
      refine ax_aload_n dX11_count_72 rfl ?_
      refine ax_getf dX11_count_73 flX11_39 e64 rfl ?_
      refine ax_getf dX11_count_76 flX11_164 e89 rfl ?_
      refine ax_getf dX11_count_79 flX11_251 e98 rfl ?_
      exact ax_ireturn dX11_count_82 rfl hq
    · refine ax_tableIn 83 dX11_count_1 (by decide) (by decide) rfl (by decide) ?_
      refine ax_aload_n dX11_count_83 rfl ?_
      refine ax_getf dX11_count_84 flX11_47 e64 rfl ?_
      refine ax_getf dX11_count_87 flX11_220 e106 rfl ?_
      exact ax_ireturn dX11_count_90 rfl hq
    · refine ax_tableIn 91 dX11_count_1 (by decide) (by decide) rfl (by decide) ?_
      refine ax_aload_n dX11_count_91 rfl ?_
      refine ax_aload_n dX11_count_92 rfl ?_
      refine ax_getf dX11_count_93 flX11_47 e64 rfl ?_
      refine ax_cV dX11_count_96 mmX11_wornRoads lkX11_289 miX11_wornRoads msX11_wornRoads (ax_recv_of e64 rfl) rfl rfl (Nat.le_of_ble_eq_true rfl) (Nat.le_of_ble_eq_true rfl) rfl rfl (c_wornRoads (d := d) hN hO.1 e64 hL hE ⟨_, rfl, ?_⟩)
      exact ax_ireturn dX11_count_99 rfl hq
    · refine ax_tableIn 100 dX11_count_1 (by decide) (by decide) rfl (by decide) ?_
      refine ax_aload_n dX11_count_100 rfl ?_
      refine ax_aload_n dX11_count_101 rfl ?_
      refine ax_getf dX11_count_102 flX11_47 e64 rfl ?_
      refine ax_cV dX11_count_105 mmX11_holesTogether lkX11_266 miX11_holesTogether msX11_holesTogether (ax_recv_of e64 rfl) rfl rfl (Nat.le_of_ble_eq_true rfl) (Nat.le_of_ble_eq_true rfl) rfl rfl (c_holesTogether (d := d) hN hO.1 e64 hL hE ⟨_, rfl, ?_⟩)
      exact ax_ireturn dX11_count_108 rfl hq
    · refine ax_tableIn 109 dX11_count_1 (by decide) (by decide) rfl (by decide) ?_
      refine ax_aload_n dX11_count_109 rfl ?_
      refine ax_getf dX11_count_110 flX11_10 e64 rfl ?_
      refine ax_getf dX11_count_113 flX11_100 e65 rfl ?_
      exact ax_ireturn dX11_count_116 rfl hq
end CA5
