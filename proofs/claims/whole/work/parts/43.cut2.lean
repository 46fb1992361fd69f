section CU2
variable {G : ax_G} {d : Nat} {h : ax_H} {Q : ax_O → ax_H → Prop}
theorem c_cutNumber {tp : List Nat} {ts : List CT} {a : Nat} (hT : Tape h tp) (hP : TkP h ts) (hl : ts.length < 1001) (ha : a ≤ tp.length)
    (hq : ∀ h', But h h' (fun j => 67 ≤ j ∧ j ≤ 70) → TkP h' (ts ++ [(nKind ((tp.drop a).takeWhile isD), a, (nkey ((tp.drop a).takeWhile isD)).toInt64)]) → Q (.inl (some (.int (nI (a + ((tp.drop a).takeWhile isD).length))))) h') : X G (d + 2) mX7_cutNumber 0 (ax_in 5 [.ref 67, .ref 65, .int (nI a)]) [] h Q := by
  have e65 := hT.1
  have e67 := hP.1
  have h1000 := hT.2.2.1
  have fin : ∀ (w : List Nat), a + w.length ≤ tp.length → w = (tp.drop a).takeWhile isD → X G (d + 2) mX7_cutNumber 43 [some (.ref 67), some (.ref 65), some (.int (nI a)), some (.int (nI (a + w.length))), some (.int (nkey w))] [] h Q := by
    intro w hw he
    rw [← he] at hq
    have hs : nI (a + w.length) - nI a = nI w.length := by rw [pk_sub (by omega)]; congr 1; omega
    unfold nKind at hq
    refine ax_aload_n dX7_cutNumber_43 rfl ?_
    refine ax_iload_n dX7_cutNumber_44 rfl ?_
    refine ax_iload_n dX7_cutNumber_45 rfl ?_
    refine ax_isub dX7_cutNumber_46 ?_
    refine ax_iconst dX7_cutNumber_47 (v := nI 4) (by decide) ?_
    rw [hs]
    by_cases h8 : 4 < w.length
    · rw [if_pos h8] at hq
      refine ax_icmp_leF 57 dX7_cutNumber_48 (by decide) (fun q => absurd (nI_lt h8 (by omega)) (Int32.not_lt.mpr q)) ?_
      refine ax_gets (k := 1) dX7_cutNumber_51 (by decide) slX7_69 (ax_tkZ (by decide) rfl) ?_
      refine ax_goto 60 dX7_cutNumber_54 (by decide) ?_
      refine ax_iload_n dX7_cutNumber_60 rfl ?_
      refine ax_iload dX7_cutNumber_61 rfl ?_
      refine ax_i2l dX7_cutNumber_63 ?_
      refine ax_cV dX7_cutNumber_64 mmX7_add lkX7_65 miX7_add msX7_add (ax_recv_of e67 rfl) rfl rfl (Nat.le_of_ble_eq_true rfl) (Nat.le_of_ble_eq_true rfl) rfl rfl (c_tkAdd (d := d + 1) (by omega) hl hP (fun h1 hb1 hP1 => ⟨_, rfl, ?_⟩))
      refine ax_iload_n dX7_cutNumber_67 rfl ?_
      exact ax_ireturn dX7_cutNumber_68 rfl (hq _ hb1 hP1)
    · rw [if_neg h8] at hq
      refine ax_icmp_leT 57 dX7_cutNumber_48 (by decide) (nI_le (by omega) (by omega)) ?_
      refine ax_gets (k := 2) dX7_cutNumber_57 (by decide) slX7_72 (ax_tkZ (by decide) rfl) ?_
      refine ax_iload_n dX7_cutNumber_60 rfl ?_
      refine ax_iload dX7_cutNumber_61 rfl ?_
      refine ax_i2l dX7_cutNumber_63 ?_
      refine ax_cV dX7_cutNumber_64 mmX7_add lkX7_65 miX7_add msX7_add (ax_recv_of e67 rfl) rfl rfl (Nat.le_of_ble_eq_true rfl) (Nat.le_of_ble_eq_true rfl) rfl rfl (c_tkAdd (d := d + 1) (by omega) hl hP (fun h1 hb1 hP1 => ⟨_, rfl, ?_⟩))
      refine ax_iload_n dX7_cutNumber_67 rfl ?_
      exact ax_ireturn dX7_cutNumber_68 rfl (hq _ hb1 hP1)
  have loop : ∀ (l w : List Nat), tp.drop (a + w.length) = l → a + w.length ≤ tp.length → w ++ l.takeWhile isD = (tp.drop a).takeWhile isD → X G (d + 2) mX7_cutNumber 5 [some (.ref 67), some (.ref 65), some (.int (nI a)), some (.int (nI (a + w.length))), some (.int (nkey w))] [] h Q := by
    intro l
    induction l with
    | nil =>
      intro w hd hle he
      have := dropN hd hle
      rw [List.takeWhile_nil, List.append_nil] at he
      refine ax_iload_n dX7_cutNumber_5 rfl ?_
      refine ax_aload_n dX7_cutNumber_6 rfl ?_
      refine ax_getf dX7_cutNumber_7 flX7_33 e65 rfl ?_
      refine ax_icmp_geT 43 dX7_cutNumber_10 (by decide) (nI_le (by omega) (by omega)) ?_
      exact fin w hle he
    | cons c l ih =>
      intro w hd hle he
      obtain ⟨i1, i2, i3⟩ := dropC hd
      refine ax_iload_n dX7_cutNumber_5 rfl ?_
      refine ax_aload_n dX7_cutNumber_6 rfl ?_
      refine ax_getf dX7_cutNumber_7 flX7_33 e65 rfl ?_
      refine ax_icmp_geF 43 dX7_cutNumber_10 (by decide) (nI_ge i1 (by omega)) ?_
      refine ax_aload_n dX7_cutNumber_13 rfl ?_
      refine ax_iload_n dX7_cutNumber_14 rfl ?_
      refine ax_cV dX7_cutNumber_15 mmX5_hasDigit lkX7_47 miX5_hasDigit msX5_hasDigit (ax_recv_of e65 rfl) rfl rfl (Nat.le_of_ble_eq_true rfl) (Nat.le_of_ble_eq_true rfl) rfl rfl (c_hasDigit (d := d) hT i1 ⟨_, rfl, ?_⟩)
      rw [i2]
      by_cases hc : isD c = true
      · rw [b1_t hc]
        rw [List.takeWhile_cons_of_pos hc] at he
        refine ax_if_eqF 43 dX7_cutNumber_18 (by decide) (by decide) ?_
        refine ax_iload dX7_cutNumber_21 rfl ?_
        refine ax_bipush dX7_cutNumber_23 (v := nI 10) (by decide) ?_
        refine ax_imul dX7_cutNumber_25 ?_
        refine ax_aload_n dX7_cutNumber_26 rfl ?_
        refine ax_iload_n dX7_cutNumber_27 rfl ?_
        refine ax_cV dX7_cutNumber_28 mmX5_signAt lkX7_53 miX5_signAt msX5_signAt (ax_recv_of e65 rfl) rfl rfl (Nat.le_of_ble_eq_true rfl) (Nat.le_of_ble_eq_true rfl) rfl rfl (c_signAt (d := d + 1) hT i1 ⟨_, rfl, ?_⟩)
        rw [i2]
        refine ax_iadd dX7_cutNumber_31 ?_
        refine ax_bipush dX7_cutNumber_32 (v := nI 48) (by decide) ?_
        refine ax_isub dX7_cutNumber_34 ?_
        refine ax_istore dX7_cutNumber_35 (Nat.le_of_ble_eq_true rfl) ?_
        refine ax_iinc dX7_cutNumber_37 rfl (ax_inc 1) ?_
        refine ax_goto 5 dX7_cutNumber_40 (by decide) ?_
        rw [nI_add]
        have hw1 : (w ++ [c]).length = w.length + 1 := by rw [List.length_append]; rfl
        have key := ih (w ++ [c]) (by rw [hw1]; exact i3) (by rw [hw1]; omega) (by rw [List.append_assoc]; exact he)
        rw [hw1, show nkey (w ++ [c]) = nkey w * nI 10 + nI c - nI 48 from by unfold nkey; rw [List.foldl_append]; rfl] at key
        exact key
      · rw [b1_f hc]
        rw [List.takeWhile_cons_of_neg hc, List.append_nil] at he
        refine ax_if_eqT 43 dX7_cutNumber_18 (by decide) rfl ?_
        exact fin w hle he
  refine ax_iload_n dX7_cutNumber_0 rfl ?_
  refine ax_istore_n dX7_cutNumber_1 (Nat.le_of_ble_eq_true rfl) ?_
  refine ax_iconst dX7_cutNumber_2 (v := nI 0) (by decide) ?_
  refine ax_istore dX7_cutNumber_3 (Nat.le_of_ble_eq_true rfl) ?_
  exact loop (tp.drop a) [] rfl ha rfl
/-- a token: its place, its sort (0 a word, 1 a number, 2 a sign), its signs -/
abbrev TK3 : Type := Nat × Nat × List Nat
def ctk (t : TK3) : CT := if t.2.1 = 0 then (wKind t.2.2, t.1, wkey t.2.2) else if t.2.1 = 1 then (nKind t.2.2, t.1, (nkey t.2.2).toInt64) else (kof (lgr 0 (t.2.2.headD 0)), t.1, lN 0)
/-- a tape is cut -/
def cutT : Nat → Nat → List Nat → List TK3
  | 0, _, _ => []
  | _ + 1, _, [] => []
  | n + 1, a, c :: r => if isB c then cutT n (a + 1) r
    else if isL c then (a, 0, (c :: r).takeWhile isL) :: cutT n (a + ((c :: r).takeWhile isL).length) ((c :: r).drop ((c :: r).takeWhile isL).length)
    else if isD c then (a, 1, (c :: r).takeWhile isD) :: cutT n (a + ((c :: r).takeWhile isD).length) ((c :: r).drop ((c :: r).takeWhile isD).length)
    else (a, 2, [c]) :: cutT n (a + 1) r
/-- the tokens of a tape, with the end -/
def cutA (tp : List Nat) : List CT := (cutT 1000 0 tp).map ctk ++ [(0, tp.length, lN 0)]
theorem tW_le {P : Nat → Bool} : ∀ l : List Nat, (l.takeWhile P).length ≤ l.length
  | [] => Nat.le_refl _
  | c :: l => by
    by_cases hc : P c = true
    · rw [List.takeWhile_cons_of_pos hc]; exact Nat.succ_le_succ (tW_le l)
    · rw [List.takeWhile_cons_of_neg hc]; exact Nat.zero_le _
theorem c_cut {tp : List Nat} {ts0 : List CT} (hT : Tape h tp) (hP0 : TkP h ts0) (hq : ∀ h', But h h' (fun j => 67 ≤ j ∧ j ≤ 70) → TkP h' (cutA tp) → Q (.inl none) h') : X G (d + 3) mX7_cut 0 (ax_in 4 [.ref 67, .ref 65]) [] h Q := by
  have h1000 := hT.2.2.1
  obtain ⟨Z, hZ⟩ : ∃ Z, (cutT 1000 0 tp).map ctk = Z := ⟨_, rfl⟩
  have fin : ∀ (n i a : Nat) (h1 : ax_H) (ts : List CT), (i + n = 1000 ∧ (n = 0 ∨ a = tp.length)) → ts.length ≤ i → But h h1 (fun j => 67 ≤ j ∧ j ≤ 70) → TkP h1 ts → ts = Z → X G (d + 3) mX7_cut 101 [some (.ref 67), some (.ref 65), some (.int (nI a)), some (.int (nI i))] [] h1 Q := by
    intro n i a h1 ts hi hts hb hP he
    have e65 := (hb.2.2 65 (by omega)).trans hT.1
    have e67 := hP.1
    refine ax_aload_n dX7_cut_101 rfl ?_
    refine ax_gets (k := 0) dX7_cut_102 (by decide) slX7_25 (ax_tkZ (by decide) rfl) ?_
    refine ax_aload_n dX7_cut_105 rfl ?_
    refine ax_getf dX7_cut_106 flX7_33 e65 rfl ?_
    refine ax_lconst dX7_cut_109 (v := lN 0) (by decide) ?_
    refine ax_cV dX7_cut_110 mmX7_add lkX7_65 miX7_add msX7_add (ax_recv_of e67 rfl) rfl rfl (Nat.le_of_ble_eq_true rfl) (Nat.le_of_ble_eq_true rfl) rfl rfl (c_tkAdd (d := d + 2) (by omega) (by omega) hP (fun h2 hb2 hP2 => ⟨_, rfl, ?_⟩))
    refine ax_return dX7_cut_113 rfl (hq _ (hb.tr hb2) ?_)
    unfold cutA
    rw [hZ, ← he]
    exact hP2
  have loop : ∀ (n i a : Nat) (l : List Nat) (h1 : ax_H) (ts : List CT), i + n = 1000 → a ≤ tp.length → tp.drop a = l → ts.length ≤ i → But h h1 (fun j => 67 ≤ j ∧ j ≤ 70) → TkP h1 ts → ts ++ (cutT n a l).map ctk = Z → X G (d + 3) mX7_cut 9 [some (.ref 67), some (.ref 65), some (.int (nI a)), some (.int (nI i))] [] h1 Q := by
    intro n
    induction n with
    | zero =>
      intro i a l h1 ts hi ha hd hts hb hP he
      refine ax_iload_n dX7_cut_9 rfl ?_
      refine ax_sipush dX7_cut_10 (v := nI 1000) (by decide) ?_
      refine ax_icmp_geT 101 dX7_cut_13 (by decide) (nI_le (by omega) (by omega)) ?_
      refine fin 0 i a h1 ts ⟨hi, Or.inl rfl⟩ hts hb hP ?_
      rw [← he]; exact (List.append_nil _).symm
    | succ n ih =>
      intro i a l h1 ts hi ha hd hts hb hP he
      have hT1 : Tape h1 tp := hT.kept (fun j z1 z2 => hb.2.2 j (by omega))
      have e65 := hT1.1
      have e67 := hP.1
      cases l with
      | nil =>
        have := dropN hd ha
        refine ax_iload_n dX7_cut_9 rfl ?_
        refine ax_sipush dX7_cut_10 (v := nI 1000) (by decide) ?_
        refine ax_icmp_geF 101 dX7_cut_13 (by decide) (nI_ge (by omega) (by omega)) ?_
        refine ax_iload_n dX7_cut_16 rfl ?_
        refine ax_aload_n dX7_cut_17 rfl ?_
        refine ax_getf dX7_cut_18 flX7_33 e65 rfl ?_
        refine ax_icmp_geT 101 dX7_cut_21 (by decide) (nI_le (by omega) (by omega)) ?_
        refine fin (n + 1) i a h1 ts ⟨hi, Or.inr this⟩ hts hb hP ?_
        rw [← he]; exact (List.append_nil _).symm
      | cons c r =>
        obtain ⟨i1, i2, i3⟩ := dropC hd
        obtain ⟨c1, c2⟩ := okS_lt (hT.2.2.2 _ (getD_mem i1))
        rw [i2] at c1 c2
        unfold cutT at he
        refine ax_iload_n dX7_cut_9 rfl ?_
        refine ax_sipush dX7_cut_10 (v := nI 1000) (by decide) ?_
        refine ax_icmp_geF 101 dX7_cut_13 (by decide) (nI_ge (by omega) (by omega)) ?_
        refine ax_iload_n dX7_cut_16 rfl ?_
        refine ax_aload_n dX7_cut_17 rfl ?_
        refine ax_getf dX7_cut_18 flX7_33 e65 rfl ?_
        refine ax_icmp_geF 101 dX7_cut_21 (by decide) (nI_ge i1 (by omega)) ?_
        refine ax_aload_n dX7_cut_24 rfl ?_
        refine ax_iload_n dX7_cut_25 rfl ?_
        refine ax_cV dX7_cut_26 mmX5_hasBlank lkX7_36 miX5_hasBlank msX5_hasBlank (ax_recv_of e65 rfl) rfl rfl (Nat.le_of_ble_eq_true rfl) (Nat.le_of_ble_eq_true rfl) rfl rfl (c_hasBlank (d := d + 1) hT1 i1 ⟨_, rfl, ?_⟩)
        rw [i2]
        by_cases hB : isB c = true
        · rw [b1_t hB]
          rw [if_pos hB] at he
          refine ax_if_eqF 38 dX7_cut_29 (by decide) (by decide) ?_
          refine ax_iinc dX7_cut_32 rfl (ax_inc 1) ?_
          refine ax_goto 95 dX7_cut_35 (by decide) ?_
          refine ax_iinc dX7_cut_95 rfl (ax_inc 1) ?_
          refine ax_goto 9 dX7_cut_98 (by decide) ?_
          rw [nI_add, nI_add]
          exact ih (i + 1) (a + 1) r h1 ts (by omega) (by omega) i3 (by omega) hb hP he
        · rw [b1_f hB]
          rw [if_neg hB] at he
          refine ax_if_eqT 38 dX7_cut_29 (by decide) rfl ?_
          refine ax_aload_n dX7_cut_38 rfl ?_
          refine ax_iload_n dX7_cut_39 rfl ?_
          refine ax_cV dX7_cut_40 mmX5_hasLetter lkX7_40 miX5_hasLetter msX5_hasLetter (ax_recv_of e65 rfl) rfl rfl (Nat.le_of_ble_eq_true rfl) (Nat.le_of_ble_eq_true rfl) rfl rfl (c_hasLetter (d := d + 1) hT1 i1 ⟨_, rfl, ?_⟩)
          rw [i2]
          by_cases hL : isL c = true
          · rw [b1_t hL]
            rw [if_pos hL] at he
            refine ax_if_eqF 56 dX7_cut_43 (by decide) (by decide) ?_
            refine ax_aload_n dX7_cut_46 rfl ?_
            refine ax_aload_n dX7_cut_47 rfl ?_
            refine ax_iload_n dX7_cut_48 rfl ?_
            refine ax_cV dX7_cut_49 mmX7_cutWord lkX7_43 miX7_cutWord msX7_cutWord (ax_recv_of e67 rfl) rfl rfl (Nat.le_of_ble_eq_true rfl) (Nat.le_of_ble_eq_true rfl) rfl rfl (c_cutWord (d := d) hT1 hP (by omega) ha (fun h2 hb2 hP2 => ⟨_, rfl, ?_⟩))
            refine ax_istore_n dX7_cut_52 (Nat.le_of_ble_eq_true rfl) ?_
            refine ax_goto 95 dX7_cut_53 (by decide) ?_
            refine ax_iinc dX7_cut_95 rfl (ax_inc 1) ?_
            refine ax_goto 9 dX7_cut_98 (by decide) ?_
            rw [nI_add]
            rw [hd] at hP2 ⊢
            have hwl : ((c :: r).takeWhile isL).length ≤ (c :: r).length := tW_le _
            have hdl : (c :: r).length = tp.length - a := by rw [← hd, List.length_drop]
            refine ih (i + 1) (a + ((c :: r).takeWhile isL).length) _ h2 _ (by omega) (by omega) (by rw [← List.drop_drop, hd]) ?_ (hb.tr hb2) hP2 ?_
            · rw [List.length_append, List.length_singleton]; omega
            · rw [← he, List.append_assoc]; rfl
          · rw [b1_f hL]
            rw [if_neg hL] at he
            refine ax_if_eqT 56 dX7_cut_43 (by decide) rfl ?_
            refine ax_aload_n dX7_cut_56 rfl ?_
            refine ax_iload_n dX7_cut_57 rfl ?_
            refine ax_cV dX7_cut_58 mmX5_hasDigit lkX7_47 miX5_hasDigit msX5_hasDigit (ax_recv_of e65 rfl) rfl rfl (Nat.le_of_ble_eq_true rfl) (Nat.le_of_ble_eq_true rfl) rfl rfl (c_hasDigit (d := d + 1) hT1 i1 ⟨_, rfl, ?_⟩)
            rw [i2]
            by_cases hD : isD c = true
            · rw [b1_t hD]
              rw [if_pos hD] at he
              refine ax_if_eqF 74 dX7_cut_61 (by decide) (by decide) ?_
              refine ax_aload_n dX7_cut_64 rfl ?_
              refine ax_aload_n dX7_cut_65 rfl ?_
              refine ax_iload_n dX7_cut_66 rfl ?_
              refine ax_cV dX7_cut_67 mmX7_cutNumber lkX7_50 miX7_cutNumber msX7_cutNumber (ax_recv_of e67 rfl) rfl rfl (Nat.le_of_ble_eq_true rfl) (Nat.le_of_ble_eq_true rfl) rfl rfl (c_cutNumber (d := d) hT1 hP (by omega) ha (fun h2 hb2 hP2 => ⟨_, rfl, ?_⟩))
              refine ax_istore_n dX7_cut_70 (Nat.le_of_ble_eq_true rfl) ?_
              refine ax_goto 95 dX7_cut_71 (by decide) ?_
              refine ax_iinc dX7_cut_95 rfl (ax_inc 1) ?_
              refine ax_goto 9 dX7_cut_98 (by decide) ?_
              rw [nI_add]
              rw [hd] at hP2 ⊢
              have hwl : ((c :: r).takeWhile isD).length ≤ (c :: r).length := tW_le _
              have hdl : (c :: r).length = tp.length - a := by rw [← hd, List.length_drop]
              refine ih (i + 1) (a + ((c :: r).takeWhile isD).length) _ h2 _ (by omega) (by omega) (by rw [← List.drop_drop, hd]) ?_ (hb.tr hb2) hP2 ?_
              · rw [List.length_append, List.length_singleton]; omega
              · rw [← he, List.append_assoc]; rfl
            · rw [b1_f hD]
              rw [if_neg hD] at he
              refine ax_if_eqT 74 dX7_cut_61 (by decide) rfl ?_
              refine ax_aload_n dX7_cut_74 rfl ?_
              refine ax_lconst dX7_cut_75 (v := lN 0) (by decide) ?_
              refine ax_aload_n dX7_cut_76 rfl ?_
              refine ax_iload_n dX7_cut_77 rfl ?_
              refine ax_cV dX7_cut_78 mmX5_signAt lkX7_53 miX5_signAt msX5_signAt (ax_recv_of e65 rfl) rfl rfl (Nat.le_of_ble_eq_true rfl) (Nat.le_of_ble_eq_true rfl) rfl rfl (c_signAt (d := d + 2) hT1 i1 ⟨_, rfl, ?_⟩)
              rw [i2]
              refine ax_cS dX7_cut_81 mmX6_longer lkX7_57 mtX6_longer rfl rfl (Nat.le_of_ble_eq_true rfl) (Nat.le_of_ble_eq_true rfl) rfl rfl (c_longer (d := d + 2) (by omega) ⟨_, rfl, ?_⟩)
              refine ax_cS dX7_cut_84 mmX6_of lkX7_61 mtX6_of rfl rfl (Nat.le_of_ble_eq_true rfl) (Nat.le_of_ble_eq_true rfl) rfl rfl (c_of (d := d + 2) ⟨_, rfl, ?_⟩)
              refine ax_iload_n dX7_cut_87 rfl ?_
              refine ax_lconst dX7_cut_88 (v := lN 0) (by decide) ?_
              refine ax_cV dX7_cut_89 mmX7_add lkX7_65 miX7_add msX7_add (ax_recv_of e67 rfl) rfl rfl (Nat.le_of_ble_eq_true rfl) (Nat.le_of_ble_eq_true rfl) rfl rfl (c_tkAdd (d := d + 2) (kof_lt _) (by omega) hP (fun h2 hb2 hP2 => ⟨_, rfl, ?_⟩))
              refine ax_iinc dX7_cut_92 rfl (ax_inc 1) ?_
              refine ax_iinc dX7_cut_95 rfl (ax_inc 1) ?_
              refine ax_goto 9 dX7_cut_98 (by decide) ?_
              rw [nI_add, nI_add]
              refine ih (i + 1) (a + 1) r h2 _ (by omega) (by omega) i3 ?_ (hb.tr hb2) hP2 ?_
              · rw [List.length_append, List.length_singleton]; omega
              · rw [← he, List.append_assoc]; rfl
  obtain ⟨e67, ⟨f1, e68, q1⟩, ⟨f2, e69, q2⟩, ⟨f3, e70, q3⟩⟩ := hP0
  refine ax_aload_n dX7_cut_0 rfl ?_
  refine ax_iconst dX7_cut_1 (v := nI 0) (by decide) ?_
  refine ax_putf dX7_cut_2 flX7_29 e67 (Nat.le_of_ble_eq_true rfl) (fun _ => ⟨rfl, rfl⟩) ?_
  refine ax_iconst dX7_cut_5 (v := nI 0) (by decide) ?_
  refine ax_istore_n dX7_cut_6 (Nat.le_of_ble_eq_true rfl) ?_
  refine ax_iconst dX7_cut_7 (v := nI 0) (by decide) ?_
  refine ax_istore_n dX7_cut_8 (Nat.le_of_ble_eq_true rfl) ?_
  exact loop 1000 0 0 tp _ [] (by omega) (by omega) rfl (Nat.le_refl _) (But.rf.wr (by omega)) ⟨ax_wr_eq, ⟨f1, (ax_wr_ne (by decide)).trans e68, fun j hj => absurd hj (Nat.not_lt_zero _)⟩, ⟨f2, (ax_wr_ne (by decide)).trans e69, fun j hj => absurd hj (Nat.not_lt_zero _)⟩, ⟨f3, (ax_wr_ne (by decide)).trans e70, fun j hj => absurd hj (Nat.not_lt_zero _)⟩⟩ hZ
end CU2
