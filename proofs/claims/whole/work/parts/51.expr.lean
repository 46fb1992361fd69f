/-! ===== Reader: expressions ===== -/
section EX
variable {G : ax_G} {d : Nat} {h : ax_H} {Q : ax_O → ax_H → Prop}
/-- state, codes, heedsLoad -/
abbrev ES : Type := (Nat × Nat) × List Nat × Int32
def eEmit (c : Nat) (e : ES) : ES := (e.1, (if e.2.1.length < 1003 then e.2.1 ++ [c] else e.2.1), hlN e.2.2 c)
def stp (k : Nat) : Nat := (tk_step.getD k 0).toNatClampNeg
def joinL (ts : List CT) (lv : Nat) (nxt : ES → ES) : Nat → ES → ES
  | 0, e => e
  | n + 1, e => if e.1.2 = 0 ∧ tk_level.getD (kA ts e.1.1) 0 = nI lv then joinL ts lv nxt n (eEmit (stp (kA ts e.1.1)) (nxt (sStep ts e.1, e.2))) else e
def join (ts : List CT) (lv : Nat) (nxt : ES → ES) (e : ES) : ES := joinL ts lv nxt (if lv = 1 then 1 else 1001) (nxt e)
def joinAll (ts : List CT) (part : ES → ES) : ES → ES := join ts 0 (join ts 1 (join ts 2 (join ts 3 part)))
abbrev isPt (ts : List CT) (l a : Nat) : Prop := ¬ fIn l (kA ts a) = 0 ∨ kA ts a = 2 ∨ kA ts a = 14 ∨ kA ts a = 4
def mPart (ts : List CT) (l : Nat) : Nat → ES → ES
  | 0, e => if e.1.2 = 0 then (if isPt ts l e.1.1 then (sFail ts 5 e.1, e.2) else (sFail ts 1 e.1, e.2)) else e
  | r + 1, e => if e.1.2 = 0 then (if isPt ts l e.1.1 then
      (if ¬ fIn l (kA ts e.1.1) = 0 then (sStep ts e.1, (eEmit (stp (kA ts e.1.1)) e).2)
       else if kA ts e.1.1 = 2 then (sStep ts e.1, (eEmit (16 + nA ts e.1.1) e).2)
       else if kA ts e.1.1 = 14 then eEmit 8 (mPart ts l r (sStep ts e.1, e.2))
       else (sSkip ts 5 (joinAll ts (mPart ts l r) (sStep ts e.1, e.2)).1, (joinAll ts (mPart ts l r) (sStep ts e.1, e.2)).2)) else (sFail ts 1 e.1, e.2)) else e
def eOK (ts : List CT) (e : ES) : Prop := sOKs ts e.1 ∧ e.2.1.length ≤ 1003
def FOK (ts : List CT) (F : ES → ES) : Prop := ∀ e, eOK ts e → eOK ts (F e)
def tsN (ts : List CT) : Prop := ∀ i, i < ts.length → kA ts i = 2 → (vA ts i).toInt32 = nI (nA ts i) ∧ nA ts i ≤ 9999
variable {ts : List CT} {l : Nat} {lb le : Nat → Nat} {D : DD}
theorem eEmit_ok {c : Nat} {e : ES} (a : eOK ts e) : eOK ts (eEmit c e) := by
  refine ⟨a.1, ?_⟩
  show (if e.2.1.length < 1003 then e.2.1 ++ [c] else e.2.1).length ≤ 1003
  have := a.2
  split
  · rw [List.length_append, List.length_singleton]; omega
  · exact a.2
theorem joinL_ok {lv : Nat} {nxt : ES → ES} (hn : FOK ts nxt) : ∀ n, FOK ts (joinL ts lv nxt n)
  | 0, e, a => a
  | n + 1, e, a => by
    unfold joinL
    split
    · exact joinL_ok hn n _ (eEmit_ok (hn _ ⟨sStep_ok a.1, a.2⟩))
    · exact a
theorem join_ok {lv : Nat} {nxt : ES → ES} (hn : FOK ts nxt) : FOK ts (join ts lv nxt) := fun e a => joinL_ok hn _ _ (hn e a)
theorem joinAll_ok {p : ES → ES} (hn : FOK ts p) : FOK ts (joinAll ts p) := join_ok (join_ok (join_ok (join_ok hn)))
theorem mPart_ok (ht : tsOK ts) : ∀ r, FOK ts (mPart ts l r)
  | 0, e, a => by
    unfold mPart
    split
    · split
      · exact ⟨sFail_ok (by omega) ht a.1, a.2⟩
      · exact ⟨sFail_ok (by omega) ht a.1, a.2⟩
    · exact a
  | r + 1, e, a => by
    have ih := mPart_ok ht r
    have b : eOK ts (sStep ts e.1, e.2) := ⟨sStep_ok a.1, a.2⟩
    unfold mPart
    split
    · split
      · split
        · exact ⟨sStep_ok a.1, (eEmit_ok a).2⟩
        · split
          · exact ⟨sStep_ok a.1, (eEmit_ok a).2⟩
          · split
            · exact eEmit_ok (ih _ b)
            · exact ⟨sSkip_ok ht (joinAll_ok ih _ b).1, (joinAll_ok ih _ b).2⟩
      · exact ⟨sFail_ok (by omega) ht a.1, a.2⟩
    · exact a
/-- emit, full or not -/
theorem c_emitG {c : Nat} {cs : List Nat} {hl : Int32} (hc : c < 2 ^ 20) (hl1 : cs.length ≤ 1003) (hD : DrD h D cs lb le hl) (hq : ∀ h', But h h' rdP → DrD h' D (if cs.length < 1003 then cs ++ [c] else cs) lb le (hlN hl c) → (∀ j, 67 ≤ j → j ≤ 70 ∨ j = 88 → h'.2.2 j = h.2.2 j) → Q (.inl none) h') : X G d mX1_emit 0 (ax_in 2 [.ref 71, .int (nI c)]) [] h Q := by
  by_cases hf : cs.length < 1003
  · rw [if_pos hf] at hq
    exact c_emit hc hf hD (fun h' hb hD' => hq h' (hb.wide (fun j z => Or.inl (by omega))) hD' (fun j z1 z2 => hb.2.2 j (by omega)))
  · rw [if_neg hf] at hq
    obtain ⟨e71, ⟨f1, e1, q1⟩, ⟨f2, e2, q2⟩, a1, a2, a3, a4, a5, a6, a7, ⟨C, e3, q3⟩, a8, a9, h01, h4⟩ := id hD
    have fin : ∀ (h1 : ax_H), (∀ j, j ≠ 71 → h1.2.2 j = h.2.2 j) → h1.2.2 71 = some (eNet 71 (nI (nS D.1)) (nI (nP D.1)) (nI (nR D.1)) (nI cs.length) (hlN hl c)) → DrD h1 D cs lb le (hlN hl c) := by
      intro h1 kp g71
      refine ⟨g71, ⟨f1, (kp _ (by decide)).trans e1, q1⟩, ⟨f2, (kp _ (by decide)).trans e2, q2⟩, a1.kept (kp _ (by decide)), a2.kept (kp _ (by decide)), a3.kept (kp _ (by decide)), a4.kept (kp _ (by decide)), a5.kept (kp _ (by decide)), a6.kept (kp _ (by decide)), a7.kept (fun j z1 z2 => kp j (by omega)), ⟨C, (kp _ (by decide)).trans e3, q3⟩, a8.kept (kp _ (by decide)), a9.kept (kp _ (by decide)), ?_, ?_⟩
      · unfold hlN
        split
        · split
          · exact Or.inr rfl
          · exact Or.inl rfl
        · exact Or.inr rfl
      · intro hz
        refine h4 ?_
        unfold hlN at hz
        by_cases h0 : hl = 0
        · exact h0
        · rw [if_neg h0] at hz; exact absurd hz (by decide)
    have kp : ∀ (e7 : ax_E) j, j ≠ 71 → (ax_wr h 71 e7).2.2 j = h.2.2 j := fun e7 j z1 => ax_wr_ne z1
    have hbb : ∀ (e7 : ax_E), But h (ax_wr h 71 e7) rdP := fun e7 => But.rf.wr (by unfold rdP; omega)
    refine ax_aload_n dX1_emit_0 rfl ?_
    refine ax_getf dX1_emit_1 flX1_74 e71 rfl ?_
    refine ax_sipush dX1_emit_4 (v := nI 1003) (by decide) ?_
    refine ax_icmp_geT 30 dX1_emit_7 (by decide) (nI_le (by omega) (by omega)) ?_
    by_cases h0 : hl = 0
    · subst h0
      refine ax_aload_n dX1_emit_30 rfl ?_
      refine ax_aload_n dX1_emit_31 rfl ?_
      refine ax_getf dX1_emit_32 flX1_77 e71 rfl ?_
      refine ax_if_neF 43 dX1_emit_35 (by decide) rfl ?_
      by_cases hc4 : c = 4
      · have eh : hlN 0 c = nI 1 := by unfold hlN; rw [if_pos rfl, if_pos hc4]
        refine ax_iload_n dX1_emit_38 rfl ?_
        refine ax_iconst dX1_emit_39 (v := nI 4) (by decide) ?_
        refine ax_icmp_neF 47 dX1_emit_40 (by decide) (by rw [hc4]) ?_
        refine ax_iconst dX1_emit_43 (v := nI 1) (by decide) ?_
        refine ax_goto 48 dX1_emit_44 (by decide) ?_
        refine ax_putf dX1_emit_48 flX1_77 e71 (Nat.le_of_ble_eq_true rfl) (nar_b (Or.inr rfl)) ?_
        exact ax_return dX1_emit_51 rfl (hq _ (hbb _) (fin _ (kp _) (by rw [eh]; exact ax_wr_eq)) (fun j z1 z2 => ax_wr_ne (by omega)))
      · have eh : hlN 0 c = nI 0 := by unfold hlN; rw [if_pos rfl, if_neg hc4]
        refine ax_iload_n dX1_emit_38 rfl ?_
        refine ax_iconst dX1_emit_39 (v := nI 4) (by decide) ?_
        refine ax_icmp_neT 47 dX1_emit_40 (by decide) (fun q => hc4 ((nI_eq (by omega) (by omega)).mp q)) ?_
        refine ax_iconst dX1_emit_47 (v := nI 0) (by decide) ?_
        refine ax_putf dX1_emit_48 flX1_77 e71 (Nat.le_of_ble_eq_true rfl) (nar_b (Or.inl rfl)) ?_
        exact ax_return dX1_emit_51 rfl (hq _ (hbb _) (fin _ (kp _) (by rw [eh]; exact ax_wr_eq)) (fun j z1 z2 => ax_wr_ne (by omega)))
    · have eh : hlN hl c = nI 1 := by unfold hlN; rw [if_neg h0]
      refine ax_aload_n dX1_emit_30 rfl ?_
      refine ax_aload_n dX1_emit_31 rfl ?_
      refine ax_getf dX1_emit_32 flX1_77 e71 rfl ?_
      refine ax_if_neT 43 dX1_emit_35 (by decide) h0 ?_
      refine ax_iconst dX1_emit_43 (v := nI 1) (by decide) ?_
      refine ax_goto 48 dX1_emit_44 (by decide) ?_
      refine ax_putf dX1_emit_48 flX1_77 e71 (Nat.le_of_ble_eq_true rfl) (nar_b (Or.inr rfl)) ?_
      exact ax_return dX1_emit_51 rfl (hq _ (hbb _) (fin _ (kp _) (by rw [eh]; exact ax_wr_eq)) (fun j z1 z2 => ax_wr_ne (by omega)))
/-- a method of the reader does F -/
def Does (G : ax_G) (dd : Nat) (M : ax_M) (lv : List (Option Value)) (ts : List CT) (l : Nat) (D : DD) (lb le : Nat → Nat) (F : ES → ES) : Prop := ∀ (e : ES) (h : ax_H) (Q : ax_O → ax_H → Prop), eOK ts e → Rd h ts l e.1 → DrD h D e.2.1 lb le e.2.2 → (∀ h', But h h' rdP → Rd h' ts l (F e).1 → DrD h' D (F e).2.1 lb le (F e).2.2 → Q (.inl none) h') → X G dd M 0 lv [] h Q
theorem stp_le : ∀ k : Nat, k < 31 → stp k < 16 ∧ (tk_level.getD k 0 = -1 → True) ∧ (¬ tk_level.getD k 0 = -1 → tk_step.getD k 0 = nI (stp k)) ∧ (∀ l : Nat, l < 3 → ¬ fIn l k = 0 → tk_step.getD k 0 = nI (stp k)) := by decide +kernel
theorem c_join {dep lv dd : Nat} {nxt : ES → ES} (hlv : lv < 4) (ht : tsOK ts) (hn : FOK ts nxt) (hN : Does G (dd + 1) mX2_readJoined (ax_in 6 [.ref 88, .int (nI (lv + 1)), .int (nI dep)]) ts l D lb le nxt) : Does G (dd + 2) mX2_readJoined (ax_in 6 [.ref 88, .int (nI lv), .int (nI dep)]) ts l D lb le (join ts lv nxt) := by
  intro e h Q ho hR hD hq
  have e88 := hR.1
  have ht1 := ht.1
  unfold join at hq
  generalize hZ : joinL ts lv nxt (if lv = 1 then 1 else 1001) (nxt e) = Z at hq
  have loop : ∀ (most m i : Nat) (e1 : ES) (h1 : ax_H) (o5 : Option Value), i + m = most → most ≤ 1001 → eOK ts e1 → joinL ts lv nxt m e1 = Z → But h h1 rdP → Rd h1 ts l e1.1 → DrD h1 D e1.2.1 lb le e1.2.2 → X G (dd + 2) mX2_readJoined 35 [some (.ref 88), some (.int (nI lv)), some (.int (nI dep)), some (.int (nI most)), some (.int (nI i)), o5] [] h1 Q := by
    intro most m
    induction m with
    | zero =>
      intro i e1 h1 o5 hi hm ho1 hj hb hR1 hD1
      refine ax_iload dX2_readJoined_35 rfl ?_
      refine ax_iload_n dX2_readJoined_37 rfl ?_
      refine ax_icmp_geT 95 dX2_readJoined_38 (by decide) (nI_le (by omega) (by omega)) ?_
      rw [← hj] at hq
      exact ax_return dX2_readJoined_95 rfl (hq _ hb hR1 hD1)
    | succ m ih =>
      intro i e1 h1 o5 hi hm ho1 hj hb hR1 hD1
      have e88 := hR1.1
      have hk31 := (ht.2 _ ho1.1.1).1
      have hf := ho1.1.2
      unfold joinL at hj
      by_cases h0 : e1.1.2 = 0
      · by_cases hL : tk_level.getD (kA ts e1.1.1) 0 = nI lv
        · rw [if_pos ⟨h0, hL⟩] at hj
          have hst := (stp_le _ hk31).2.2.1 (fun q => by
            rw [hL] at q
            exact absurd (show nI lv < 0 by rw [q]; decide) (nI_pos (by omega)))
          have hs16 := (stp_le _ hk31).1
          refine ax_iload dX2_readJoined_35 rfl ?_
          refine ax_iload_n dX2_readJoined_37 rfl ?_
          refine ax_icmp_geF 95 dX2_readJoined_38 (by decide) (nI_ge (by omega) (by omega)) ?_
          refine ax_aload_n dX2_readJoined_41 rfl ?_
          refine ax_getf dX2_readJoined_42 flX2_28 e88 rfl ?_
          refine ax_if_neF 95 dX2_readJoined_45 (by decide) (by rw [h0]; rfl) ?_
          refine ax_aload_n dX2_readJoined_48 rfl ?_
          refine ax_getf dX2_readJoined_49 flX2_15 e88 rfl ?_
          refine ax_getON dX2_readJoined_52 (by omega) snX2_181 (ax_tkF (q := ("LostRoads$Token", "level", "I", tk_level)) (by omega) (by decide)) (fun _ => rfl) ?_
          refine ax_iload_n dX2_readJoined_55 rfl ?_
          refine ax_icmp_neF 95 dX2_readJoined_56 (by decide) hL ?_
          refine ax_aload_n dX2_readJoined_59 rfl ?_
          refine ax_getf dX2_readJoined_60 flX2_15 e88 rfl ?_
          refine ax_getON dX2_readJoined_63 (by omega) snX2_184 (ax_tkF (q := ("LostRoads$Token", "step", "I", tk_step)) (by omega) (by decide)) (fun _ => rfl) ?_
          rw [show (("LostRoads$Token", "step", "I", tk_step) : String × String × String × List Int32).2.2.2 = tk_step from rfl, hst]
          refine ax_istore dX2_readJoined_66 (Nat.le_of_ble_eq_true rfl) ?_
          refine ax_aload_n dX2_readJoined_68 rfl ?_
          refine ax_cV dX2_readJoined_69 mmX2_step lkX2_187 miX2_step msX2_step (ax_recv_of e88 rfl) rfl rfl (Nat.le_of_ble_eq_true rfl) (Nat.le_of_ble_eq_true rfl) rfl rfl (c_rstep (d := dd + 1) ht ho1.1 hR1 (fun h2 hb2 hR2 => ⟨_, rfl, ?_⟩))
          have hD2 := hD1.rd hb2
          have e88 := hR2.1
          refine ax_aload_n dX2_readJoined_72 rfl ?_
          refine ax_iload_n dX2_readJoined_73 rfl ?_
          refine ax_iconst dX2_readJoined_74 (v := nI 1) (by decide) ?_
          refine ax_iadd dX2_readJoined_75 ?_
          refine ax_iload_n dX2_readJoined_76 rfl ?_
          rw [nI_add]
          refine ax_cV dX2_readJoined_77 mmX2_readJoined lkX2_171 miX2_readJoined msX2_readJoined (ax_recv_of e88 rfl) rfl rfl (Nat.le_of_ble_eq_true rfl) (Nat.le_of_ble_eq_true rfl) rfl rfl (hN (sStep ts e1.1, e1.2) h2 _ ⟨sStep_ok ho1.1, ho1.2⟩ hR2 hD2 (fun h3 hb3 hR3 hD3 => ⟨_, rfl, ?_⟩))
          have o3 := hn (sStep ts e1.1, e1.2) ⟨sStep_ok ho1.1, ho1.2⟩
          have e88 := hR3.1
          have e71 := hD3.1
          refine ax_aload_n dX2_readJoined_80 rfl ?_
          refine ax_getf dX2_readJoined_81 flX2_24 e88 rfl ?_
          refine ax_iload dX2_readJoined_84 rfl ?_
          refine ax_cV dX2_readJoined_86 mmX1_emit lkX2_189 miX1_emit msX1_emit (ax_recv_of e71 rfl) rfl rfl (Nat.le_of_ble_eq_true rfl) (Nat.le_of_ble_eq_true rfl) rfl rfl (c_emitG (d := dd + 1) (by omega) o3.2 hD3 (fun h4 hb4 hD4 hk4 => ⟨_, rfl, ?_⟩))
          refine ax_iinc dX2_readJoined_89 rfl (ax_inc 1) ?_
          refine ax_goto 35 dX2_readJoined_92 (by decide) ?_
          rw [nI_add]
          exact ih (i + 1) (eEmit (stp (kA ts e1.1.1)) (nxt (sStep ts e1.1, e1.2))) h4 _ (by omega) hm (eEmit_ok o3) hj (((hb.tr (hb2.wide (fun j z => Or.inr z))).tr hb3).tr hb4) (hR3.kept hk4) hD4
        · rw [if_neg (fun q => hL q.2)] at hj
          rw [← hj] at hq
          refine ax_iload dX2_readJoined_35 rfl ?_
          refine ax_iload_n dX2_readJoined_37 rfl ?_
          refine ax_icmp_geF 95 dX2_readJoined_38 (by decide) (nI_ge (by omega) (by omega)) ?_
          refine ax_aload_n dX2_readJoined_41 rfl ?_
          refine ax_getf dX2_readJoined_42 flX2_28 e88 rfl ?_
          refine ax_if_neF 95 dX2_readJoined_45 (by decide) (by rw [h0]; rfl) ?_
          refine ax_aload_n dX2_readJoined_48 rfl ?_
          refine ax_getf dX2_readJoined_49 flX2_15 e88 rfl ?_
          refine ax_getON dX2_readJoined_52 (by omega) snX2_181 (ax_tkF (q := ("LostRoads$Token", "level", "I", tk_level)) (by omega) (by decide)) (fun _ => rfl) ?_
          refine ax_iload_n dX2_readJoined_55 rfl ?_
          refine ax_icmp_neT 95 dX2_readJoined_56 (by decide) hL ?_
          exact ax_return dX2_readJoined_95 rfl (hq _ hb hR1 hD1)
      · rw [if_neg (fun q => h0 q.1)] at hj
        rw [← hj] at hq
        refine ax_iload dX2_readJoined_35 rfl ?_
        refine ax_iload_n dX2_readJoined_37 rfl ?_
        refine ax_icmp_geF 95 dX2_readJoined_38 (by decide) (nI_ge (by omega) (by omega)) ?_
        refine ax_aload_n dX2_readJoined_41 rfl ?_
        refine ax_getf dX2_readJoined_42 flX2_28 e88 rfl ?_
        refine ax_if_neT 95 dX2_readJoined_45 (by decide) (fun q => h0 ((nI_eq (by omega) (by omega)).mp q)) ?_
        exact ax_return dX2_readJoined_95 rfl (hq _ hb hR1 hD1)
  refine ax_iload_n dX2_readJoined_0 rfl ?_
  refine ax_iconst dX2_readJoined_1 (v := nI 4) (by decide) ?_
  refine ax_icmp_ltT 11 dX2_readJoined_2 (by decide) (nI_lt hlv (by omega)) ?_
  refine ax_aload_n dX2_readJoined_11 rfl ?_
  refine ax_iload_n dX2_readJoined_12 rfl ?_
  refine ax_iconst dX2_readJoined_13 (v := nI 1) (by decide) ?_
  refine ax_iadd dX2_readJoined_14 ?_
  refine ax_iload_n dX2_readJoined_15 rfl ?_
  rw [nI_add]
  refine ax_cV dX2_readJoined_16 mmX2_readJoined lkX2_171 miX2_readJoined msX2_readJoined (ax_recv_of e88 rfl) rfl rfl (Nat.le_of_ble_eq_true rfl) (Nat.le_of_ble_eq_true rfl) rfl rfl (hN e h _ ho hR hD (fun h1 hb1 hR1 hD1 => ⟨_, rfl, ?_⟩))
  have o1 := hn e ho
  by_cases h1 : lv = 1
  · rw [if_pos h1] at hZ
    subst h1
    refine ax_iload_n dX2_readJoined_19 rfl ?_
    refine ax_iconst dX2_readJoined_20 (v := nI 1) (by decide) ?_
    refine ax_icmp_neF 28 dX2_readJoined_21 (by decide) rfl ?_
    refine ax_iconst dX2_readJoined_24 (v := nI 1) (by decide) ?_
    refine ax_goto 31 dX2_readJoined_25 (by decide) ?_
    refine ax_istore_n dX2_readJoined_31 (Nat.le_of_ble_eq_true rfl) ?_
    refine ax_iconst dX2_readJoined_32 (v := nI 0) (by decide) ?_
    refine ax_istore dX2_readJoined_33 (Nat.le_of_ble_eq_true rfl) ?_
    exact loop 1 1 0 (nxt e) _ none rfl (by omega) o1 hZ hb1 hR1 hD1
  · rw [if_neg h1] at hZ
    refine ax_iload_n dX2_readJoined_19 rfl ?_
    refine ax_iconst dX2_readJoined_20 (v := nI 1) (by decide) ?_
    refine ax_icmp_neT 28 dX2_readJoined_21 (by decide) (fun q => h1 ((nI_eq (by omega) (by omega)).mp q)) ?_
    refine ax_sipush dX2_readJoined_28 (v := nI 1001) (by decide) ?_
    refine ax_istore_n dX2_readJoined_31 (Nat.le_of_ble_eq_true rfl) ?_
    refine ax_iconst dX2_readJoined_32 (v := nI 0) (by decide) ?_
    refine ax_istore dX2_readJoined_33 (Nat.le_of_ble_eq_true rfl) ?_
    exact loop 1001 1001 0 (nxt e) _ none rfl (by omega) o1 hZ hb1 hR1 hD1
end EX
