section CU
variable {G : ax_G} {d : Nat} {h : ax_H} {Q : ax_O → ax_H → Prop}
abbrev isL (c : Nat) : Bool := decide (97 ≤ c ∧ c ≤ 122)
abbrev isD (c : Nat) : Bool := decide (48 ≤ c ∧ c ≤ 57)
abbrev isB (c : Nat) : Bool := decide (c = 10 ∨ c = 32)
theorem okS_lt {c : Nat} (a : okS c) : c < 127 ∧ 10 ≤ c := by unfold okS at a; omega
theorem getD_mem {tp : List Nat} {i : Nat} (hi : i < tp.length) : tp.getD i 0 ∈ tp := by
  rw [List.getD_eq_getElem?_getD, List.getElem?_eq_getElem hi]
  exact List.getElem_mem hi
theorem c_signAt {tp : List Nat} {i : Nat} (hT : Tape h tp) (hi : i < tp.length) (hq : Q (.inl (some (.int (nI (tp.getD i 0))))) h) : X G d mX5_signAt 0 (ax_in 2 [.ref 65, .int (nI i)]) [] h Q := by
  obtain ⟨e65, ⟨f, e66, q1⟩, hl, -⟩ := id hT
  refine ax_iload_n dX5_signAt_0 rfl ?_
  refine ax_if_ltF 21 dX5_signAt_1 (by decide) (nI_pos (by omega)) ?_
  refine ax_iload_n dX5_signAt_4 rfl ?_
  refine ax_aload_n dX5_signAt_5 rfl ?_
  refine ax_getf dX5_signAt_6 flX5_13 e65 rfl ?_
  refine ax_icmp_geF 21 dX5_signAt_9 (by decide) (nI_ge hi (by omega)) ?_
  refine ax_aload_n dX5_signAt_12 rfl ?_
  refine ax_getf dX5_signAt_13 flX5_9 e65 rfl ?_
  refine ax_iload_n dX5_signAt_16 rfl ?_
  refine ax_bald dX5_signAt_17 e66 (ax_ix_nI (by omega) (by decide)) ?_
  rw [q1 i hi]
  refine ax_goto 22 dX5_signAt_18 (by decide) ?_
  exact ax_ireturn dX5_signAt_22 rfl hq
theorem c_hasBlank {tp : List Nat} {i : Nat} (hT : Tape h tp) (hi : i < tp.length) (hq : Q (.inl (some (.int (b1 (isB (tp.getD i 0) = true))))) h) : X G (d + 1) mX5_hasBlank 0 (ax_in 2 [.ref 65, .int (nI i)]) [] h Q := by
  have e65 := hT.1
  obtain ⟨c1, c2⟩ := okS_lt (hT.2.2.2 _ (getD_mem hi))
  refine ax_aload_n dX5_hasBlank_0 rfl ?_
  refine ax_iload_n dX5_hasBlank_1 rfl ?_
  refine ax_cV dX5_hasBlank_2 mmX5_signAt lkX5_17 miX5_signAt msX5_signAt (ax_recv_of e65 rfl) rfl rfl (Nat.le_of_ble_eq_true rfl) (Nat.le_of_ble_eq_true rfl) rfl rfl (c_signAt hT hi ⟨_, rfl, ?_⟩)
  by_cases h1 : tp.getD i 0 = 10
  · rw [b1_t (decide_eq_true (Or.inl h1))] at hq
    refine ax_bipush dX5_hasBlank_5 (v := nI 10) (by decide) ?_
    refine ax_icmp_eqT 20 dX5_hasBlank_7 (by decide) (by rw [h1]) ?_
    refine ax_iconst dX5_hasBlank_20 (v := nI 1) (by decide) ?_
    refine ax_goto 25 dX5_hasBlank_21 (by decide) ?_
    exact ax_zreturn dX5_hasBlank_25 rfl (Or.inr rfl) hq
  · refine ax_bipush dX5_hasBlank_5 (v := nI 10) (by decide) ?_
    refine ax_icmp_eqF 20 dX5_hasBlank_7 (by decide) (fun q => h1 ((nI_eq (by omega) (by omega)).mp q)) ?_
    refine ax_aload_n dX5_hasBlank_10 rfl ?_
    refine ax_iload_n dX5_hasBlank_11 rfl ?_
    refine ax_cV dX5_hasBlank_12 mmX5_signAt lkX5_17 miX5_signAt msX5_signAt (ax_recv_of e65 rfl) rfl rfl (Nat.le_of_ble_eq_true rfl) (Nat.le_of_ble_eq_true rfl) rfl rfl (c_signAt hT hi ⟨_, rfl, ?_⟩)
    by_cases h2 : tp.getD i 0 = 32
    · rw [b1_t (decide_eq_true (Or.inr h2))] at hq
      refine ax_bipush dX5_hasBlank_15 (v := nI 32) (by decide) ?_
      refine ax_icmp_neF 24 dX5_hasBlank_17 (by decide) (by rw [h2]) ?_
      refine ax_iconst dX5_hasBlank_20 (v := nI 1) (by decide) ?_
      refine ax_goto 25 dX5_hasBlank_21 (by decide) ?_
      exact ax_zreturn dX5_hasBlank_25 rfl (Or.inr rfl) hq
    · rw [b1_f (fun q => (of_decide_eq_true q).elim h1 h2)] at hq
      refine ax_bipush dX5_hasBlank_15 (v := nI 32) (by decide) ?_
      refine ax_icmp_neT 24 dX5_hasBlank_17 (by decide) (fun q => h2 ((nI_eq (by omega) (by omega)).mp q)) ?_
      refine ax_iconst dX5_hasBlank_24 (v := nI 0) (by decide) ?_
      exact ax_zreturn dX5_hasBlank_25 rfl (Or.inl rfl) hq
theorem c_hasLetter {tp : List Nat} {i : Nat} (hT : Tape h tp) (hi : i < tp.length) (hq : Q (.inl (some (.int (b1 (isL (tp.getD i 0) = true))))) h) : X G (d + 1) mX5_hasLetter 0 (ax_in 2 [.ref 65, .int (nI i)]) [] h Q := by
  have e65 := hT.1
  obtain ⟨c1, c2⟩ := okS_lt (hT.2.2.2 _ (getD_mem hi))
  refine ax_aload_n dX5_hasLetter_0 rfl ?_
  refine ax_iload_n dX5_hasLetter_1 rfl ?_
  refine ax_cV dX5_hasLetter_2 mmX5_signAt lkX5_17 miX5_signAt msX5_signAt (ax_recv_of e65 rfl) rfl rfl (Nat.le_of_ble_eq_true rfl) (Nat.le_of_ble_eq_true rfl) rfl rfl (c_signAt hT hi ⟨_, rfl, ?_⟩)
  by_cases h1 : 97 ≤ tp.getD i 0
  · refine ax_bipush dX5_hasLetter_5 (v := nI 97) (by decide) ?_
    refine ax_icmp_ltF 24 dX5_hasLetter_7 (by decide) (nI_nlt h1 (by omega)) ?_
    refine ax_aload_n dX5_hasLetter_10 rfl ?_
    refine ax_iload_n dX5_hasLetter_11 rfl ?_
    refine ax_cV dX5_hasLetter_12 mmX5_signAt lkX5_17 miX5_signAt msX5_signAt (ax_recv_of e65 rfl) rfl rfl (Nat.le_of_ble_eq_true rfl) (Nat.le_of_ble_eq_true rfl) rfl rfl (c_signAt hT hi ⟨_, rfl, ?_⟩)
    by_cases h2 : tp.getD i 0 ≤ 122
    · rw [b1_t (decide_eq_true ⟨h1, h2⟩)] at hq
      refine ax_bipush dX5_hasLetter_15 (v := nI 122) (by decide) ?_
      refine ax_icmp_gtF 24 dX5_hasLetter_17 (by decide) (nI_nlt h2 (by omega)) ?_
      refine ax_iconst dX5_hasLetter_20 (v := nI 1) (by decide) ?_
      refine ax_goto 25 dX5_hasLetter_21 (by decide) ?_
      exact ax_zreturn dX5_hasLetter_25 rfl (Or.inr rfl) hq
    · rw [b1_f (fun q => h2 (of_decide_eq_true q).2)] at hq
      refine ax_bipush dX5_hasLetter_15 (v := nI 122) (by decide) ?_
      refine ax_icmp_gtT 24 dX5_hasLetter_17 (by decide) (nI_lt (by omega) (by omega)) ?_
      refine ax_iconst dX5_hasLetter_24 (v := nI 0) (by decide) ?_
      exact ax_zreturn dX5_hasLetter_25 rfl (Or.inl rfl) hq
  · rw [b1_f (fun q => h1 (of_decide_eq_true q).1)] at hq
    refine ax_bipush dX5_hasLetter_5 (v := nI 97) (by decide) ?_
    refine ax_icmp_ltT 24 dX5_hasLetter_7 (by decide) (nI_lt (by omega) (by omega)) ?_
    refine ax_iconst dX5_hasLetter_24 (v := nI 0) (by decide) ?_
    exact ax_zreturn dX5_hasLetter_25 rfl (Or.inl rfl) hq
theorem c_hasDigit {tp : List Nat} {i : Nat} (hT : Tape h tp) (hi : i < tp.length) (hq : Q (.inl (some (.int (b1 (isD (tp.getD i 0) = true))))) h) : X G (d + 1) mX5_hasDigit 0 (ax_in 2 [.ref 65, .int (nI i)]) [] h Q := by
  have e65 := hT.1
  obtain ⟨c1, c2⟩ := okS_lt (hT.2.2.2 _ (getD_mem hi))
  refine ax_aload_n dX5_hasDigit_0 rfl ?_
  refine ax_iload_n dX5_hasDigit_1 rfl ?_
  refine ax_cV dX5_hasDigit_2 mmX5_signAt lkX5_17 miX5_signAt msX5_signAt (ax_recv_of e65 rfl) rfl rfl (Nat.le_of_ble_eq_true rfl) (Nat.le_of_ble_eq_true rfl) rfl rfl (c_signAt hT hi ⟨_, rfl, ?_⟩)
  by_cases h1 : 48 ≤ tp.getD i 0
  · refine ax_bipush dX5_hasDigit_5 (v := nI 48) (by decide) ?_
    refine ax_icmp_ltF 24 dX5_hasDigit_7 (by decide) (nI_nlt h1 (by omega)) ?_
    refine ax_aload_n dX5_hasDigit_10 rfl ?_
    refine ax_iload_n dX5_hasDigit_11 rfl ?_
    refine ax_cV dX5_hasDigit_12 mmX5_signAt lkX5_17 miX5_signAt msX5_signAt (ax_recv_of e65 rfl) rfl rfl (Nat.le_of_ble_eq_true rfl) (Nat.le_of_ble_eq_true rfl) rfl rfl (c_signAt hT hi ⟨_, rfl, ?_⟩)
    by_cases h2 : tp.getD i 0 ≤ 57
    · rw [b1_t (decide_eq_true ⟨h1, h2⟩)] at hq
      refine ax_bipush dX5_hasDigit_15 (v := nI 57) (by decide) ?_
      refine ax_icmp_gtF 24 dX5_hasDigit_17 (by decide) (nI_nlt h2 (by omega)) ?_
      refine ax_iconst dX5_hasDigit_20 (v := nI 1) (by decide) ?_
      refine ax_goto 25 dX5_hasDigit_21 (by decide) ?_
      exact ax_zreturn dX5_hasDigit_25 rfl (Or.inr rfl) hq
    · rw [b1_f (fun q => h2 (of_decide_eq_true q).2)] at hq
      refine ax_bipush dX5_hasDigit_15 (v := nI 57) (by decide) ?_
      refine ax_icmp_gtT 24 dX5_hasDigit_17 (by decide) (nI_lt (by omega) (by omega)) ?_
      refine ax_iconst dX5_hasDigit_24 (v := nI 0) (by decide) ?_
      exact ax_zreturn dX5_hasDigit_25 rfl (Or.inl rfl) hq
  · rw [b1_f (fun q => h1 (of_decide_eq_true q).1)] at hq
    refine ax_bipush dX5_hasDigit_5 (v := nI 48) (by decide) ?_
    refine ax_icmp_ltT 24 dX5_hasDigit_7 (by decide) (nI_lt (by omega) (by omega)) ?_
    refine ax_iconst dX5_hasDigit_24 (v := nI 0) (by decide) ?_
    exact ax_zreturn dX5_hasDigit_25 rfl (Or.inl rfl) hq
/-- the class's tokens: kind, place, value -/
abbrev CT : Type := Nat × Nat × Int64
def ctAt (ts : List CT) (j : Nat) : CT := ts.getD j (0, 0, 0)
theorem ctAt_app {ts : List CT} {t : CT} {j : Nat} (hj : j < ts.length + 1) : ctAt (ts ++ [t]) j = if j = ts.length then t else ctAt ts j := by
  unfold ctAt
  by_cases hc : j = ts.length
  · rw [if_pos hc, List.getD_eq_getElem?_getD, List.getElem?_append_right (by omega), hc, Nat.sub_self]; rfl
  · rw [if_neg hc, List.getD_eq_getElem?_getD, List.getD_eq_getElem?_getD, List.getElem?_append_left (by omega)]
def TkP (h : ax_H) (ts : List CT) : Prop := h.2.2 67 = some (eToks (nI ts.length)) ∧ (∃ f, h.2.2 68 = some (eT 1001 f) ∧ ∀ j, j < ts.length → f j = some (ctAt ts j).1) ∧ (∃ f, h.2.2 69 = some (eI 1001 f) ∧ ∀ j, j < ts.length → f j = nI (ctAt ts j).2.1) ∧ (∃ f, h.2.2 70 = some (eJ 1001 f) ∧ ∀ j, j < ts.length → f j = (ctAt ts j).2.2)
theorem TkP.kept {h' : ax_H} {ts : List CT} (a : TkP h ts) (hk : ∀ j, 67 ≤ j → j ≤ 70 → h'.2.2 j = h.2.2 j) : TkP h' ts := by
  obtain ⟨e, ⟨f, e1, q1⟩, ⟨f2, e2, q2⟩, ⟨f3, e3, q3⟩⟩ := a
  exact ⟨(hk _ (by omega) (by omega)).trans e, ⟨f, (hk _ (by omega) (by omega)).trans e1, q1⟩, ⟨f2, (hk _ (by omega) (by omega)).trans e2, q2⟩, ⟨f3, (hk _ (by omega) (by omega)).trans e3, q3⟩⟩
theorem c_tkAdd {ts : List CT} {k p : Nat} {v : Int64} (hk : k < 31) (hl : ts.length < 1001) (hT : TkP h ts) (hq : ∀ h', But h h' (fun j => 67 ≤ j ∧ j ≤ 70) → TkP h' (ts ++ [(k, p, v)]) → Q (.inl none) h') : X G d mX7_add 0 (ax_in 5 [.ref 67, .ref k, .int (nI p), .long v]) [] h Q := by
  obtain ⟨e67, ⟨f1, e68, q1⟩, ⟨f2, e69, q2⟩, ⟨f3, e70, q3⟩⟩ := hT
  refine ax_aload_n dX7_add_0 rfl ?_
  refine ax_getf dX7_add_1 flX7_29 e67 rfl ?_
  refine ax_sipush dX7_add_4 (v := nI 1001) (by decide) ?_
  refine ax_icmp_geF 50 dX7_add_7 (by decide) (nI_ge (by omega) (by omega)) ?_
  refine ax_aload_n dX7_add_10 rfl ?_
  refine ax_getf dX7_add_11 flX7_13 e67 rfl ?_
  refine ax_aload_n dX7_add_14 rfl ?_
  refine ax_getf dX7_add_15 flX7_29 e67 rfl ?_
  refine ax_aload_n dX7_add_18 rfl ?_
  refine ax_aastT dX7_add_19 e68 (ax_ix_nI hl (by decide)) hk ?_
  refine ax_aload_n dX7_add_20 rfl ?_
  refine ax_getf dX7_add_21 flX7_17 ((ax_wr_ne (by decide)).trans (e67)) rfl ?_
  refine ax_aload_n dX7_add_24 rfl ?_
  refine ax_getf dX7_add_25 flX7_29 ((ax_wr_ne (by decide)).trans (e67)) rfl ?_
  refine ax_iload_n dX7_add_28 rfl ?_
  refine ax_iast dX7_add_29 ((ax_wr_ne (by decide)).trans (e69)) (ax_ix_nI hl (by decide)) ?_
  refine ax_aload_n dX7_add_30 rfl ?_
  refine ax_getf dX7_add_31 flX7_21 ((ax_wr_ne (by decide)).trans ((ax_wr_ne (by decide)).trans (e67))) rfl ?_
  refine ax_aload_n dX7_add_34 rfl ?_
  refine ax_getf dX7_add_35 flX7_29 ((ax_wr_ne (by decide)).trans ((ax_wr_ne (by decide)).trans (e67))) rfl ?_
  refine ax_lload_n dX7_add_38 rfl ?_
  refine ax_last dX7_add_39 ((ax_wr_ne (by decide)).trans ((ax_wr_ne (by decide)).trans (e70))) (ax_ix_nI hl (by decide)) ?_
  refine ax_aload_n dX7_add_40 rfl ?_
  refine ax_dup dX7_add_41 rfl ?_
  refine ax_getf dX7_add_42 flX7_29 ((ax_wr_ne (by decide)).trans ((ax_wr_ne (by decide)).trans ((ax_wr_ne (by decide)).trans (e67)))) rfl ?_
  refine ax_iconst dX7_add_45 (v := nI 1) (by decide) ?_
  refine ax_iadd dX7_add_46 ?_
  refine ax_putf dX7_add_47 flX7_29 ((ax_wr_ne (by decide)).trans ((ax_wr_ne (by decide)).trans ((ax_wr_ne (by decide)).trans (e67)))) (Nat.le_of_ble_eq_true rfl) (fun _ => ⟨rfl, rfl⟩) ?_
  rw [nI_add]
  have hl1 : (ts ++ [(k, p, v)]).length = ts.length + 1 := by rw [List.length_append]; rfl
  refine ax_return dX7_add_50 rfl (hq _ ((((But.rf.wr (by omega)).wr (by omega)).wr (by omega)).wr (by omega)) ⟨?_, ⟨_, ((ax_wr_ne (by decide)).trans ((ax_wr_ne (by decide)).trans ((ax_wr_ne (by decide)).trans (ax_wr_eq)))), fun j hj => ?_⟩, ⟨_, ((ax_wr_ne (by decide)).trans ((ax_wr_ne (by decide)).trans (ax_wr_eq))), fun j hj => ?_⟩, ⟨_, ((ax_wr_ne (by decide)).trans (ax_wr_eq)), fun j hj => ?_⟩⟩)
  · rw [hl1]; exact ax_wr_eq
  · rw [hl1] at hj
    rw [ctAt_app hj]
    unfold va_up
    by_cases hc : j = ts.length
    · rw [if_pos hc, if_pos hc]
    · rw [if_neg hc, if_neg hc]; exact q1 j (by omega)
  · rw [hl1] at hj
    rw [ctAt_app hj]
    unfold upd
    by_cases hc : j = ts.length
    · rw [if_pos hc, if_pos hc]
    · rw [if_neg hc, if_neg hc]; exact q2 j (by omega)
  · rw [hl1] at hj
    rw [ctAt_app hj]
    unfold vp_updL
    by_cases hc : j = ts.length
    · rw [if_pos hc, if_pos hc]
    · rw [if_neg hc, if_neg hc]; exact q3 j (by omega)
/-- a word's key; a number -/
def wkey (w : List Nat) : Int64 := w.foldl lgr 0
def nkey (w : List Nat) : Int32 := w.foldl (fun n c => n * nI 10 + nI c - nI 48) 0
def wKind (w : List Nat) : Nat := if 8 < w.length then 1 else kof (wkey w)
def nKind (w : List Nat) : Nat := if 4 < w.length then 1 else 2
theorem wKind_lt (w : List Nat) : wKind w < 31 := by unfold wKind; have := kof_lt (wkey w); split <;> omega
theorem dropN {tp : List Nat} {i : Nat} (e : tp.drop i = []) (hi : i ≤ tp.length) : i = tp.length := by
  have := congrArg List.length e
  rw [List.length_drop] at this
  simp only [List.length_nil] at this
  omega
theorem c_cutWord {tp : List Nat} {ts : List CT} {a : Nat} (hT : Tape h tp) (hP : TkP h ts) (hl : ts.length < 1001) (ha : a ≤ tp.length)
    (hq : ∀ h', But h h' (fun j => 67 ≤ j ∧ j ≤ 70) → TkP h' (ts ++ [(wKind ((tp.drop a).takeWhile isL), a, wkey ((tp.drop a).takeWhile isL))]) → Q (.inl (some (.int (nI (a + ((tp.drop a).takeWhile isL).length))))) h') : X G (d + 2) mX7_cutWord 0 (ax_in 6 [.ref 67, .ref 65, .int (nI a)]) [] h Q := by
  have e65 := hT.1
  have e67 := hP.1
  have h1000 := hT.2.2.1
  have fin : ∀ (w : List Nat), a + w.length ≤ tp.length → w = (tp.drop a).takeWhile isL → X G (d + 2) mX7_cutWord 39 [some (.ref 67), some (.ref 65), some (.int (nI a)), some (.int (nI (a + w.length))), some (.long (wkey w)), none] [] h Q := by
    intro w hw he
    rw [← he] at hq
    have hk := wKind_lt w
    have hs : nI (a + w.length) - nI a = nI w.length := by rw [pk_sub (by omega)]; congr 1; omega
    unfold wKind at hq hk
    refine ax_aload_n dX7_cutWord_39 rfl ?_
    refine ax_iload_n dX7_cutWord_40 rfl ?_
    refine ax_iload_n dX7_cutWord_41 rfl ?_
    refine ax_isub dX7_cutWord_42 ?_
    refine ax_bipush dX7_cutWord_43 (v := nI 8) (by decide) ?_
    rw [hs]
    by_cases h8 : 8 < w.length
    · rw [if_pos h8] at hq hk
      refine ax_icmp_leF 54 dX7_cutWord_45 (by decide) (fun q => absurd (nI_lt h8 (by omega)) (Int32.not_lt.mpr q)) ?_
      refine ax_gets (k := 1) dX7_cutWord_48 (by decide) slX7_69 (ax_tkZ (by decide) rfl) ?_
      refine ax_goto 59 dX7_cutWord_51 (by decide) ?_
      refine ax_iload_n dX7_cutWord_59 rfl ?_
      refine ax_lload dX7_cutWord_60 rfl ?_
      refine ax_cV dX7_cutWord_62 mmX7_add lkX7_65 miX7_add msX7_add (ax_recv_of e67 rfl) rfl rfl (Nat.le_of_ble_eq_true rfl) (Nat.le_of_ble_eq_true rfl) rfl rfl (c_tkAdd (d := d + 1) (by omega) hl hP (fun h1 hb1 hP1 => ⟨_, rfl, ?_⟩))
      refine ax_iload_n dX7_cutWord_65 rfl ?_
      exact ax_ireturn dX7_cutWord_66 rfl (hq _ hb1 hP1)
    · rw [if_neg h8] at hq hk
      refine ax_icmp_leT 54 dX7_cutWord_45 (by decide) (nI_le (by omega) (by omega)) ?_
      refine ax_lload dX7_cutWord_54 rfl ?_
      refine ax_cS dX7_cutWord_56 mmX6_of lkX7_61 mtX6_of rfl rfl (Nat.le_of_ble_eq_true rfl) (Nat.le_of_ble_eq_true rfl) rfl rfl (c_of (d := d + 1) ⟨_, rfl, ?_⟩)
      refine ax_iload_n dX7_cutWord_59 rfl ?_
      refine ax_lload dX7_cutWord_60 rfl ?_
      refine ax_cV dX7_cutWord_62 mmX7_add lkX7_65 miX7_add msX7_add (ax_recv_of e67 rfl) rfl rfl (Nat.le_of_ble_eq_true rfl) (Nat.le_of_ble_eq_true rfl) rfl rfl (c_tkAdd (d := d + 1) hk hl hP (fun h1 hb1 hP1 => ⟨_, rfl, ?_⟩))
      refine ax_iload_n dX7_cutWord_65 rfl ?_
      exact ax_ireturn dX7_cutWord_66 rfl (hq _ hb1 hP1)
  have loop : ∀ (l w : List Nat), tp.drop (a + w.length) = l → a + w.length ≤ tp.length → w ++ l.takeWhile isL = (tp.drop a).takeWhile isL → X G (d + 2) mX7_cutWord 5 [some (.ref 67), some (.ref 65), some (.int (nI a)), some (.int (nI (a + w.length))), some (.long (wkey w)), none] [] h Q := by
    intro l
    induction l with
    | nil =>
      intro w hd hle he
      have := dropN hd hle
      rw [List.takeWhile_nil, List.append_nil] at he
      refine ax_iload_n dX7_cutWord_5 rfl ?_
      refine ax_aload_n dX7_cutWord_6 rfl ?_
      refine ax_getf dX7_cutWord_7 flX7_33 e65 rfl ?_
      refine ax_icmp_geT 39 dX7_cutWord_10 (by decide) (nI_le (by omega) (by omega)) ?_
      exact fin w hle he
    | cons c l ih =>
      intro w hd hle he
      obtain ⟨i1, i2, i3⟩ := dropC hd
      obtain ⟨c1, c2⟩ := okS_lt (hT.2.2.2 _ (getD_mem i1))
      rw [i2] at c1 c2
      refine ax_iload_n dX7_cutWord_5 rfl ?_
      refine ax_aload_n dX7_cutWord_6 rfl ?_
      refine ax_getf dX7_cutWord_7 flX7_33 e65 rfl ?_
      refine ax_icmp_geF 39 dX7_cutWord_10 (by decide) (nI_ge i1 (by omega)) ?_
      refine ax_aload_n dX7_cutWord_13 rfl ?_
      refine ax_iload_n dX7_cutWord_14 rfl ?_
      refine ax_cV dX7_cutWord_15 mmX5_hasLetter lkX7_40 miX5_hasLetter msX5_hasLetter (ax_recv_of e65 rfl) rfl rfl (Nat.le_of_ble_eq_true rfl) (Nat.le_of_ble_eq_true rfl) rfl rfl (c_hasLetter (d := d) hT i1 ⟨_, rfl, ?_⟩)
      rw [i2]
      by_cases hc : isL c = true
      · rw [b1_t hc]
        rw [List.takeWhile_cons_of_pos hc] at he
        refine ax_if_eqF 39 dX7_cutWord_18 (by decide) (by decide) ?_
        refine ax_lload dX7_cutWord_21 rfl ?_
        refine ax_aload_n dX7_cutWord_23 rfl ?_
        refine ax_iload_n dX7_cutWord_24 rfl ?_
        refine ax_cV dX7_cutWord_25 mmX5_signAt lkX7_53 miX5_signAt msX5_signAt (ax_recv_of e65 rfl) rfl rfl (Nat.le_of_ble_eq_true rfl) (Nat.le_of_ble_eq_true rfl) rfl rfl (c_signAt (d := d + 1) hT i1 ⟨_, rfl, ?_⟩)
        rw [i2]
        refine ax_cS dX7_cutWord_28 mmX6_longer lkX7_57 mtX6_longer rfl rfl (Nat.le_of_ble_eq_true rfl) (Nat.le_of_ble_eq_true rfl) rfl rfl (c_longer (d := d + 1) (by omega) ⟨_, rfl, ?_⟩)
        refine ax_lstore dX7_cutWord_31 (Nat.le_of_ble_eq_true rfl) ?_
        refine ax_iinc dX7_cutWord_33 rfl (ax_inc 1) ?_
        refine ax_goto 5 dX7_cutWord_36 (by decide) ?_
        rw [nI_add]
        have hw1 : (w ++ [c]).length = w.length + 1 := by rw [List.length_append]; rfl
        have key := ih (w ++ [c]) (by rw [hw1]; exact i3) (by rw [hw1]; omega) (by rw [List.append_assoc]; exact he)
        rw [hw1, show wkey (w ++ [c]) = lgr (wkey w) c from by unfold wkey; rw [List.foldl_append]; rfl] at key
        exact key
      · rw [b1_f hc]
        rw [List.takeWhile_cons_of_neg hc, List.append_nil] at he
        refine ax_if_eqT 39 dX7_cutWord_18 (by decide) rfl ?_
        exact fin w hle he
  refine ax_iload_n dX7_cutWord_0 rfl ?_
  refine ax_istore_n dX7_cutWord_1 (Nat.le_of_ble_eq_true rfl) ?_
  refine ax_lconst dX7_cutWord_2 (v := lN 0) (by decide) ?_
  refine ax_lstore dX7_cutWord_3 (Nat.le_of_ble_eq_true rfl) ?_
  exact loop (tp.drop a) [] rfl ha rfl
end CU
