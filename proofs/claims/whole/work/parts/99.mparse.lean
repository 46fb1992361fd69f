/-! ===== the model's parser: its small steps ===== -/
section MPA
variable {G : ax_G} {d : Nat} {h : ax_H} {Q : ax_O → ax_H → Prop}
variable {th ta si pt fa co nm rd ask nw os sw bc bm : Int32} {gg : Int64}
variable {ts : List CT} {So Va : Nat → Nat} {s : Nat × Nat}
def fwd (k : Nat) : Nat := [5, 6, 1, 2, 9, 16, 17, 18].getD k 0
/-- the rows that the parser reads -/
def PsR (h : ax_H) (ts : List CT) (So Va : Nat → Nat) : Prop := RwT h ts So Va ∧ (∃ f, h.2.2 150 = some (eJ 19 f) ∧ ∀ j, j < 19 → f j = lN (wv (KW j))) ∧ ∃ f, h.2.2 156 = some (eI 8 f) ∧ ∀ j, j < 8 → f j = nI (fwd j)
theorem PsR.kept {h' : ax_H} (a : PsR h ts So Va) (hk : ∀ j, 147 ≤ j → j ≤ 150 ∨ j = 156 → h'.2.2 j = h.2.2 j) : PsR h' ts So Va := by
  obtain ⟨a1, ⟨f, e, q⟩, ⟨g, e2, q2⟩⟩ := a
  exact ⟨a1.kept (fun j z1 z2 => hk j z1 (by omega)), ⟨f, (hk _ (by omega) (by omega)).trans e, q⟩, ⟨g, (hk _ (by omega) (by omega)).trans e2, q2⟩⟩
theorem PsR.k1 {h' : ax_H} (a : PsR h ts So Va) (hb : But h h' (fun j => j = 145)) : PsR h' ts So Va := a.kept (fun j z1 z2 => hb.2.2 j (by omega))
theorem lg_lt {x y : Int64} : lg_cmp x y < 0 ↔ x < y := by
  unfold lg_cmp
  by_cases h1 : x > y
  · rw [if_pos h1]
    exact ⟨fun q => absurd q (by decide), fun q => absurd (Int64.lt_trans q h1) Int64.lt_irrefl⟩
  · rw [if_neg h1]
    by_cases h2 : x = y
    · rw [if_pos h2]; exact ⟨fun q => absurd q (by decide), fun q => absurd (h2 ▸ q) Int64.lt_irrefl⟩
    · rw [if_neg h2]; exact ⟨fun _ => (Int64.lt_or_eq_of_le (Int64.not_lt.mp h1)).resolve_right h2, fun _ => by decide⟩
theorem lg_le {x y : Int64} : lg_cmp x y ≤ 0 ↔ x ≤ y := by
  unfold lg_cmp
  by_cases h1 : x > y
  · rw [if_pos h1]
    exact ⟨fun q => absurd q (by decide), fun q => absurd h1 (Int64.not_lt.mpr q)⟩
  · rw [if_neg h1]
    refine ⟨fun _ => Int64.not_lt.mp h1, fun _ => ?_⟩
    by_cases h2 : x = y
    · rw [if_pos h2]; decide
    · rw [if_neg h2]; decide
theorem sStep_n (h0 : ¬ s.2 = 0) : sStep ts s = s := if_neg (fun q => h0 q.1)
theorem sFail_y {k : Nat} (h0 : ¬ s.2 = 0) : sFail ts k s = s := if_neg h0
theorem sStep_y (hE : tsE ts) (hs : sOKs ts s) (h0 : s.2 = 0) (hk : ¬ kA ts s.1 = 0) : sStep ts s = (s.1 + 1, 0) := by
  unfold sStep
  rw [if_pos ⟨h0, hE _ hs.1 hk⟩, h0]
theorem sSF {k : Nat} (hk : 1 ≤ k) : sStep ts (sFail ts k s) = sFail ts k s := sStep_n (sFail_f hk)
theorem sSkip_e {k : Nat} (hk : ¬ k = 0) (hE : tsE ts) (hs : sOKs ts s) : sSkip ts k s = if s.2 = 0 ∧ kA ts s.1 = k then (s.1 + 1, 0) else sFail ts 1 s := by
  unfold sSkip
  by_cases h0 : s.2 = 0
  · by_cases h1 : kA ts s.1 = k
    · rw [if_pos h1, if_pos ⟨h0, h1⟩, sStep_y hE hs h0 (by omega)]
    · rw [if_neg h1, if_neg (fun q => h1 q.2), sSF (by omega)]
  · rw [if_neg (show ¬ (s.2 = 0 ∧ kA ts s.1 = k) from fun q => h0 q.1), sFail_y h0]
    split
    · exact sStep_n h0
    · exact sStep_n h0
theorem sNum_e {a b : Nat} (hb : b < 2 ^ 20) (ha : a < 2 ^ 20) (hE : tsE ts) (hs : sOKs ts s) (hT : TkF (kA ts s.1) (vA ts s.1) (So s.1) (Va s.1)) : sNum ts a b s = if s.2 = 0 ∧ So s.1 = 2 ∧ a ≤ Va s.1 ∧ Va s.1 ≤ b then (s.1 + 1, 0) else if So s.1 = 2 then sFail ts 4 s else sFail ts 1 s := by
  obtain ⟨-, -, t2, t3, -⟩ := hT
  unfold sNum
  by_cases h2 : So s.1 = 2
  · have h2' := t2.mp h2
    obtain ⟨v1, v2⟩ := t3 h2
    rw [if_pos h2', v1]
    have e1 : (nI (Va s.1) < nI a ∨ nI b < nI (Va s.1)) ↔ ¬ (a ≤ Va s.1 ∧ Va s.1 ≤ b) := by
      constructor
      · rintro (q | q) ⟨z1, z2⟩
        · exact nI_nlt z1 (by omega) q
        · exact nI_nlt z2 (by omega) q
      · intro q
        by_cases z1 : a ≤ Va s.1
        · exact Or.inr (nI_lt (by omega) (by omega))
        · exact Or.inl (nI_lt (by omega) (by omega))
    by_cases hr : a ≤ Va s.1 ∧ Va s.1 ≤ b
    · rw [if_neg (fun q => e1.mp q hr)]
      by_cases h0 : s.2 = 0
      · rw [if_pos ⟨h0, h2, hr⟩, sStep_y hE hs h0 (by omega)]
      · rw [if_neg (fun q => h0 q.1), if_pos h2, sFail_y h0, sStep_n h0]
    · rw [if_pos (e1.mpr hr), if_neg (fun q => hr q.2.2), if_pos h2, sSF (by omega)]
  · have h2' : ¬ kA ts s.1 = 2 := fun q => h2 (t2.mpr q)
    rw [if_neg h2', if_neg (fun q => h2 q.2.1), if_neg h2, sSF (by omega)]
theorem nA_va (hT : TkF (kA ts s.1) (vA ts s.1) (So s.1) (Va s.1)) (h2 : So s.1 = 2) : nA ts s.1 = Va s.1 := by
  obtain ⟨v1, v2⟩ := hT.2.2.2.1 h2
  unfold nA
  rw [v1, nI_clamp (by omega)]
theorem k_wrong {k : Nat} (hk : k ≤ 5) (ht : tsOK ts) (hs : sOKs ts s) (e145 : h.2.2 145 = some (eM th ta si (nI s.1) (nI s.2) co nm rd ask nw os sw bc bm gg)) (hP : PsR h ts So Va) (hq : ∀ h', But h h' (fun j => j = 145) → h'.2.2 145 = some (eM th ta si (nI (sFail ts k s).1) (nI (sFail ts k s).2) co nm rd ask nw os sw bc bm gg) → Q (.inl none) h') : X G d mX12_wrong 0 (ax_in 2 [.ref 145, .int (nI k)]) [] h Q := by
  obtain ⟨⟨f1, f2, f3, e147, e148, e149, q⟩, -⟩ := id hP
  have hs1 := hs.1
  have hs2 := hs.2
  have ht1 := ht.1
  by_cases h0 : s.2 = 0
  · rw [show sFail ts k s = (s.1, k + 16 * pA ts s.1) from if_pos h0] at hq
    refine ax_aload_n dX12_wrong_0 rfl ?_
    refine ax_getf dX12_wrong_1 flX12_156 e145 rfl ?_
    refine ax_if_neF 25 dX12_wrong_4 (by decide) (by rw [h0]; rfl) ?_
    refine ax_aload_n dX12_wrong_7 rfl ?_
    refine ax_iload_n dX12_wrong_8 rfl ?_
    refine ax_bipush dX12_wrong_9 (v := nI 16) (by decide) ?_
    refine ax_aload_n dX12_wrong_11 rfl ?_
    refine ax_getf dX12_wrong_12 flX12_27 e145 rfl ?_
    refine ax_aload_n dX12_wrong_15 rfl ?_
    refine ax_getf dX12_wrong_16 flX12_153 e145 rfl ?_
    refine ax_iald dX12_wrong_19 e148 (ax_ix_nI (j := s.1) (by omega) (by decide)) ?_
    rw [(q s.1 hs1).2.1]
    refine ax_imul dX12_wrong_20 ?_
    refine ax_iadd dX12_wrong_21 ?_
    rw [pk_mul 16 (pA ts s.1), nI_add k (16 * pA ts s.1)]
    refine ax_putf dX12_wrong_22 flX12_156 e145 (Nat.le_of_ble_eq_true rfl) (fun _ => ⟨rfl, rfl⟩) ?_
    exact ax_return dX12_wrong_25 rfl (hq _ (But.rf.wr rfl) ax_wr_eq)
  · rw [sFail_y h0] at hq
    refine ax_aload_n dX12_wrong_0 rfl ?_
    refine ax_getf dX12_wrong_1 flX12_156 e145 rfl ?_
    refine ax_if_neT 25 dX12_wrong_4 (by decide) (fun q => h0 ((nI_eq (by omega) (by omega)).mp q)) ?_
    exact ax_return dX12_wrong_25 rfl (hq _ But.rf e145)
theorem k_isSign {q : Nat} (hq8 : q < 8) (ht : tsOK ts) (hs : sOKs ts s) (hT : TkQ ts So Va) (e145 : h.2.2 145 = some (eM th ta si (nI s.1) (nI s.2) co nm rd ask nw os sw bc bm gg)) (hP : PsR h ts So Va) (hq : Q (.inl (some (.int (b1 (s.2 = 0 ∧ kA ts s.1 = 4 + q))))) h) : X G d mX12_isSign 0 (ax_in 2 [.ref 145, .int (nI (sgC q))]) [] h Q := by
  obtain ⟨⟨f1, f2, f3, e147, e148, e149, qq⟩, -⟩ := id hP
  have hs1 := hs.1
  have hs2 := hs.2
  have ht1 := ht.1
  have hsg : sgC q < 100 := by
    have : ∀ q : Nat, q < 8 → sgC q < 100 := by decide
    exact this q hq8
  obtain ⟨t0, -, -, -, t4, -, -, -, tl⟩ := hT s.1 hs1
  obtain ⟨r1, -, r3⟩ := qq s.1 hs1
  by_cases h0 : s.2 = 0
  · refine ax_aload_n dX12_isSign_0 rfl ?_
    refine ax_getf dX12_isSign_1 flX12_156 e145 rfl ?_
    refine ax_if_neF 39 dX12_isSign_4 (by decide) (by rw [h0]; rfl) ?_
    refine ax_aload_n dX12_isSign_7 rfl ?_
    refine ax_getf dX12_isSign_8 flX12_24 e145 rfl ?_
    refine ax_aload_n dX12_isSign_11 rfl ?_
    refine ax_getf dX12_isSign_12 flX12_153 e145 rfl ?_
    refine ax_iald dX12_isSign_15 e147 (ax_ix_nI (j := s.1) (by omega) (by decide)) ?_
    rw [r1]
    by_cases h3 : So s.1 = 3
    · refine ax_iconst dX12_isSign_16 (v := nI 3) (by decide) ?_
      refine ax_icmp_neF 39 dX12_isSign_17 (by decide) (by rw [h3]) ?_
      refine ax_aload_n dX12_isSign_20 rfl ?_
      refine ax_getf dX12_isSign_21 flX12_30 e145 rfl ?_
      refine ax_aload_n dX12_isSign_24 rfl ?_
      refine ax_getf dX12_isSign_25 flX12_153 e145 rfl ?_
      refine ax_lald dX12_isSign_28 e149 (ax_ix_nI (j := s.1) (by omega) (by decide)) ?_
      rw [r3 (by omega)]
      refine ax_iload_n dX12_isSign_29 rfl ?_
      refine ax_i2l dX12_isSign_30 ?_
      rw [nI_l (n := sgC q) (by omega)]
      by_cases hv : Va s.1 = sgC q
      · rw [b1_t ⟨h0, (t4 q hq8).mp ⟨h3, hv⟩⟩] at hq
        refine ax_lcmp dX12_isSign_31 ?_
        refine ax_if_neF 39 dX12_isSign_32 (by decide) (lg_cmp0.mpr (by rw [hv])) ?_
        refine ax_iconst dX12_isSign_35 (v := nI 1) (by decide) ?_
        refine ax_goto 40 dX12_isSign_36 (by decide) ?_
        exact ax_zreturn dX12_isSign_40 rfl (Or.inr rfl) hq
      · rw [b1_f (fun z => hv ((t4 q hq8).mpr z.2).2)] at hq
        refine ax_lcmp dX12_isSign_31 ?_
        refine ax_if_neT 39 dX12_isSign_32 (by decide) (fun z => hv ((pk_lEQ (by omega) (by omega)).mp (lg_cmp0.mp z))) ?_
        refine ax_iconst dX12_isSign_39 (v := nI 0) (by decide) ?_
        exact ax_zreturn dX12_isSign_40 rfl (Or.inl rfl) hq
    · rw [b1_f (fun z => h3 ((t4 q hq8).mpr z.2).1)] at hq
      refine ax_iconst dX12_isSign_16 (v := nI 3) (by decide) ?_
      refine ax_icmp_neT 39 dX12_isSign_17 (by decide) (fun z => h3 ((nI_eq (by omega) (by omega)).mp z)) ?_
      refine ax_iconst dX12_isSign_39 (v := nI 0) (by decide) ?_
      exact ax_zreturn dX12_isSign_40 rfl (Or.inl rfl) hq
  · rw [b1_f (fun z => h0 z.1)] at hq
    refine ax_aload_n dX12_isSign_0 rfl ?_
    refine ax_getf dX12_isSign_1 flX12_156 e145 rfl ?_
    refine ax_if_neT 39 dX12_isSign_4 (by decide) (fun z => h0 ((nI_eq (by omega) (by omega)).mp z)) ?_
    refine ax_iconst dX12_isSign_39 (v := nI 0) (by decide) ?_
    exact ax_zreturn dX12_isSign_40 rfl (Or.inl rfl) hq
theorem k_isWord {w : Nat} (hw : w < 19) (ht : tsOK ts) (hs : sOKs ts s) (hT : TkQ ts So Va) (e145 : h.2.2 145 = some (eM th ta si (nI s.1) (nI s.2) co nm rd ask nw os sw bc bm gg)) (hP : PsR h ts So Va) (hq : Q (.inl (some (.int (b1 (s.2 = 0 ∧ kA ts s.1 = kwK w))))) h) : X G d mX12_isWord 0 (ax_in 2 [.ref 145, .int (nI w)]) [] h Q := by
  obtain ⟨⟨f1, f2, f3, e147, e148, e149, qq⟩, ⟨fw, e150, qw⟩, -⟩ := id hP
  have hs1 := hs.1
  have hs2 := hs.2
  have ht1 := ht.1
  have hsg := wv_lt (KW_ls w hw).1 (KW_ls w hw).2.1
  obtain ⟨t0, -, -, -, -, t5, -, -, tl⟩ := hT s.1 hs1
  obtain ⟨r1, -, r3⟩ := qq s.1 hs1
  by_cases h0 : s.2 = 0
  · refine ax_aload_n dX12_isWord_0 rfl ?_
    refine ax_getf dX12_isWord_1 flX12_156 e145 rfl ?_
    refine ax_if_neF 43 dX12_isWord_4 (by decide) (by rw [h0]; rfl) ?_
    refine ax_aload_n dX12_isWord_7 rfl ?_
    refine ax_getf dX12_isWord_8 flX12_24 e145 rfl ?_
    refine ax_aload_n dX12_isWord_11 rfl ?_
    refine ax_getf dX12_isWord_12 flX12_153 e145 rfl ?_
    refine ax_iald dX12_isWord_15 e147 (ax_ix_nI (j := s.1) (by omega) (by decide)) ?_
    rw [r1]
    by_cases h3 : So s.1 = 1
    · refine ax_iconst dX12_isWord_16 (v := nI 1) (by decide) ?_
      refine ax_icmp_neF 43 dX12_isWord_17 (by decide) (by rw [h3]) ?_
      refine ax_aload_n dX12_isWord_20 rfl ?_
      refine ax_getf dX12_isWord_21 flX12_30 e145 rfl ?_
      refine ax_aload_n dX12_isWord_24 rfl ?_
      refine ax_getf dX12_isWord_25 flX12_153 e145 rfl ?_
      refine ax_lald dX12_isWord_28 e149 (ax_ix_nI (j := s.1) (by omega) (by decide)) ?_
      rw [r3 (by omega)]
      refine ax_aload_n dX12_isWord_29 rfl ?_
      refine ax_getf dX12_isWord_30 flX12_72 e145 rfl ?_
      refine ax_iload_n dX12_isWord_33 rfl ?_
      refine ax_lald dX12_isWord_34 e150 (ax_ix_nI (j := w) (by omega) (by decide)) ?_
      rw [qw w hw]
      by_cases hv : Va s.1 = wv (KW w)
      · rw [b1_t ⟨h0, (t5 w hw).mp ⟨h3, hv⟩⟩] at hq
        refine ax_lcmp dX12_isWord_35 ?_
        refine ax_if_neF 43 dX12_isWord_36 (by decide) (lg_cmp0.mpr (by rw [hv])) ?_
        refine ax_iconst dX12_isWord_39 (v := nI 1) (by decide) ?_
        refine ax_goto 44 dX12_isWord_40 (by decide) ?_
        exact ax_zreturn dX12_isWord_44 rfl (Or.inr rfl) hq
      · rw [b1_f (fun z => hv ((t5 w hw).mpr z.2).2)] at hq
        refine ax_lcmp dX12_isWord_35 ?_
        refine ax_if_neT 43 dX12_isWord_36 (by decide) (fun z => hv ((pk_lEQ (by omega) (by omega)).mp (lg_cmp0.mp z))) ?_
        refine ax_iconst dX12_isWord_43 (v := nI 0) (by decide) ?_
        exact ax_zreturn dX12_isWord_44 rfl (Or.inl rfl) hq
    · rw [b1_f (fun z => h3 ((t5 w hw).mpr z.2).1)] at hq
      refine ax_iconst dX12_isWord_16 (v := nI 1) (by decide) ?_
      refine ax_icmp_neT 43 dX12_isWord_17 (by decide) (fun z => h3 ((nI_eq (by omega) (by omega)).mp z)) ?_
      refine ax_iconst dX12_isWord_43 (v := nI 0) (by decide) ?_
      exact ax_zreturn dX12_isWord_44 rfl (Or.inl rfl) hq
  · rw [b1_f (fun z => h0 z.1)] at hq
    refine ax_aload_n dX12_isWord_0 rfl ?_
    refine ax_getf dX12_isWord_1 flX12_156 e145 rfl ?_
    refine ax_if_neT 43 dX12_isWord_4 (by decide) (fun z => h0 ((nI_eq (by omega) (by omega)).mp z)) ?_
    refine ax_iconst dX12_isWord_43 (v := nI 0) (by decide) ?_
    exact ax_zreturn dX12_isWord_44 rfl (Or.inl rfl) hq
theorem k_takeSign {q : Nat} (hq8 : q < 8) (ht : tsOK ts) (hE : tsE ts) (hs : sOKs ts s) (hT : TkQ ts So Va) (e145 : h.2.2 145 = some (eM th ta si (nI s.1) (nI s.2) co nm rd ask nw os sw bc bm gg)) (hP : PsR h ts So Va) (hq : ∀ h', But h h' (fun j => j = 145) → h'.2.2 145 = some (eM th ta si (nI (sSkip ts (4 + q) s).1) (nI (sSkip ts (4 + q) s).2) co nm rd ask nw os sw bc bm gg) → Q (.inl none) h') : X G (d + 1) mX12_takeSign 0 (ax_in 2 [.ref 145, .int (nI (sgC q))]) [] h Q := by
  rw [sSkip_e (by omega) hE hs] at hq
  refine ax_aload_n dX12_takeSign_0 rfl ?_
  refine ax_iload_n dX12_takeSign_1 rfl ?_
  refine ax_cV dX12_takeSign_2 mmX12_isSign lkX12_159 miX12_isSign msX12_isSign (ax_recv_of e145 rfl) rfl rfl (Nat.le_of_ble_eq_true rfl) (Nat.le_of_ble_eq_true rfl) rfl rfl (k_isSign (d := d) hq8 ht hs hT e145 hP ⟨_, rfl, ?_⟩)
  by_cases hc : s.2 = 0 ∧ kA ts s.1 = 4 + q
  · rw [if_pos hc] at hq
    rw [b1_t hc]
    refine ax_if_eqF 21 dX12_takeSign_5 (by decide) (by decide) ?_
    refine ax_aload_n dX12_takeSign_8 rfl ?_
    refine ax_dup dX12_takeSign_9 rfl ?_
    refine ax_getf dX12_takeSign_10 flX12_153 e145 rfl ?_
    refine ax_iconst dX12_takeSign_13 (v := nI 1) (by decide) ?_
    refine ax_iadd dX12_takeSign_14 ?_
    refine ax_putf dX12_takeSign_15 flX12_153 e145 (Nat.le_of_ble_eq_true rfl) (fun _ => ⟨rfl, rfl⟩) ?_
    refine ax_goto 26 dX12_takeSign_18 (by decide) ?_
    rw [nI_add s.1 1, show nI s.2 = nI 0 from by rw [hc.1]]
    exact ax_return dX12_takeSign_26 rfl (hq _ (But.rf.wr rfl) ax_wr_eq)
  · rw [if_neg hc] at hq
    rw [b1_f hc]
    refine ax_if_eqT 21 dX12_takeSign_5 (by decide) rfl ?_
    refine ax_aload_n dX12_takeSign_21 rfl ?_
    refine ax_iconst dX12_takeSign_22 (v := nI 1) (by decide) ?_
    refine ax_cV dX12_takeSign_23 mmX12_wrong lkX12_162 miX12_wrong msX12_wrong (ax_recv_of e145 rfl) rfl rfl (Nat.le_of_ble_eq_true rfl) (Nat.le_of_ble_eq_true rfl) rfl rfl (k_wrong (d := d) (k := 1) (by omega) ht hs e145 hP (fun h1 hb1 e1 => ⟨_, rfl, ?_⟩))
    exact ax_return dX12_takeSign_26 rfl (hq _ hb1 e1)
/-- a step where it is so -/
def sIf (s : Nat × Nat) (p : Prop) [Decidable p] : Nat × Nat := if p then (s.1 + 1, s.2) else s
theorem k_hasSign {q : Nat} (hq8 : q < 8) (ht : tsOK ts) (hs : sOKs ts s) (hT : TkQ ts So Va) (e145 : h.2.2 145 = some (eM th ta si (nI s.1) (nI s.2) co nm rd ask nw os sw bc bm gg)) (hP : PsR h ts So Va) (hq : ∀ h', But h h' (fun j => j = 145) → h'.2.2 145 = some (eM th ta si (nI (sIf s (s.2 = 0 ∧ kA ts s.1 = 4 + q)).1) (nI s.2) co nm rd ask nw os sw bc bm gg) → Q (.inl (some (.int (b1 (s.2 = 0 ∧ kA ts s.1 = 4 + q))))) h') : X G (d + 1) mX12_hasSign 0 (ax_in 3 [.ref 145, .int (nI (sgC q))]) [] h Q := by
  unfold sIf at hq
  refine ax_aload_n dX12_hasSign_0 rfl ?_
  refine ax_iload_n dX12_hasSign_1 rfl ?_
  refine ax_cV dX12_hasSign_2 mmX12_isSign lkX12_159 miX12_isSign msX12_isSign (ax_recv_of e145 rfl) rfl rfl (Nat.le_of_ble_eq_true rfl) (Nat.le_of_ble_eq_true rfl) rfl rfl (k_isSign (d := d) hq8 ht hs hT e145 hP ⟨_, rfl, ?_⟩)
  by_cases hc : s.2 = 0 ∧ kA ts s.1 = 4 + q
  · rw [if_pos hc, b1_t hc] at hq
    rw [b1_t hc]
    refine ax_istore_n dX12_hasSign_5 (Nat.le_of_ble_eq_true rfl) ?_
    refine ax_aload_n dX12_hasSign_6 rfl ?_
    refine ax_dup dX12_hasSign_7 rfl ?_
    refine ax_getf dX12_hasSign_8 flX12_153 e145 rfl ?_
    refine ax_iload_n dX12_hasSign_11 rfl ?_
    refine ax_if_eqF 19 dX12_hasSign_12 (by decide) (by decide) ?_
    refine ax_iconst dX12_hasSign_15 (v := nI 1) (by decide) ?_
    refine ax_goto 20 dX12_hasSign_16 (by decide) ?_
    refine ax_iadd dX12_hasSign_20 ?_
    refine ax_putf dX12_hasSign_21 flX12_153 e145 (Nat.le_of_ble_eq_true rfl) (fun _ => ⟨rfl, rfl⟩) ?_
    refine ax_iload_n dX12_hasSign_24 rfl ?_
    rw [nI_add s.1 1]
    exact ax_zreturn dX12_hasSign_25 rfl (Or.inr rfl) (hq _ (But.rf.wr rfl) ax_wr_eq)
  · rw [if_neg hc, b1_f hc] at hq
    rw [b1_f hc]
    refine ax_istore_n dX12_hasSign_5 (Nat.le_of_ble_eq_true rfl) ?_
    refine ax_aload_n dX12_hasSign_6 rfl ?_
    refine ax_dup dX12_hasSign_7 rfl ?_
    refine ax_getf dX12_hasSign_8 flX12_153 e145 rfl ?_
    refine ax_iload_n dX12_hasSign_11 rfl ?_
    refine ax_if_eqT 19 dX12_hasSign_12 (by decide) rfl ?_
    refine ax_iconst dX12_hasSign_19 (v := nI 0) (by decide) ?_
    refine ax_iadd dX12_hasSign_20 ?_
    refine ax_putf dX12_hasSign_21 flX12_153 e145 (Nat.le_of_ble_eq_true rfl) (fun _ => ⟨rfl, rfl⟩) ?_
    refine ax_iload_n dX12_hasSign_24 rfl ?_
    rw [nI_add s.1 0]
    exact ax_zreturn dX12_hasSign_25 rfl (Or.inl rfl) (hq _ (But.rf.wr rfl) ax_wr_eq)
theorem k_hasWord {w : Nat} (hw : w < 19) (ht : tsOK ts) (hs : sOKs ts s) (hT : TkQ ts So Va) (e145 : h.2.2 145 = some (eM th ta si (nI s.1) (nI s.2) co nm rd ask nw os sw bc bm gg)) (hP : PsR h ts So Va) (hq : ∀ h', But h h' (fun j => j = 145) → h'.2.2 145 = some (eM th ta si (nI (sIf s (s.2 = 0 ∧ kA ts s.1 = kwK w)).1) (nI s.2) co nm rd ask nw os sw bc bm gg) → Q (.inl (some (.int (b1 (s.2 = 0 ∧ kA ts s.1 = kwK w))))) h') : X G (d + 1) mX12_hasWord 0 (ax_in 3 [.ref 145, .int (nI w)]) [] h Q := by
  unfold sIf at hq
  refine ax_aload_n dX12_hasWord_0 rfl ?_
  refine ax_iload_n dX12_hasWord_1 rfl ?_
  refine ax_cV dX12_hasWord_2 mmX12_isWord lkX12_166 miX12_isWord msX12_isWord (ax_recv_of e145 rfl) rfl rfl (Nat.le_of_ble_eq_true rfl) (Nat.le_of_ble_eq_true rfl) rfl rfl (k_isWord (d := d) hw ht hs hT e145 hP ⟨_, rfl, ?_⟩)
  by_cases hc : s.2 = 0 ∧ kA ts s.1 = kwK w
  · rw [if_pos hc, b1_t hc] at hq
    rw [b1_t hc]
    refine ax_istore_n dX12_hasWord_5 (Nat.le_of_ble_eq_true rfl) ?_
    refine ax_aload_n dX12_hasWord_6 rfl ?_
    refine ax_dup dX12_hasWord_7 rfl ?_
    refine ax_getf dX12_hasWord_8 flX12_153 e145 rfl ?_
    refine ax_iload_n dX12_hasWord_11 rfl ?_
    refine ax_if_eqF 19 dX12_hasWord_12 (by decide) (by decide) ?_
    refine ax_iconst dX12_hasWord_15 (v := nI 1) (by decide) ?_
    refine ax_goto 20 dX12_hasWord_16 (by decide) ?_
    refine ax_iadd dX12_hasWord_20 ?_
    refine ax_putf dX12_hasWord_21 flX12_153 e145 (Nat.le_of_ble_eq_true rfl) (fun _ => ⟨rfl, rfl⟩) ?_
    refine ax_iload_n dX12_hasWord_24 rfl ?_
    rw [nI_add s.1 1]
    exact ax_zreturn dX12_hasWord_25 rfl (Or.inr rfl) (hq _ (But.rf.wr rfl) ax_wr_eq)
  · rw [if_neg hc, b1_f hc] at hq
    rw [b1_f hc]
    refine ax_istore_n dX12_hasWord_5 (Nat.le_of_ble_eq_true rfl) ?_
    refine ax_aload_n dX12_hasWord_6 rfl ?_
    refine ax_dup dX12_hasWord_7 rfl ?_
    refine ax_getf dX12_hasWord_8 flX12_153 e145 rfl ?_
    refine ax_iload_n dX12_hasWord_11 rfl ?_
    refine ax_if_eqT 19 dX12_hasWord_12 (by decide) rfl ?_
    refine ax_iconst dX12_hasWord_19 (v := nI 0) (by decide) ?_
    refine ax_iadd dX12_hasWord_20 ?_
    refine ax_putf dX12_hasWord_21 flX12_153 e145 (Nat.le_of_ble_eq_true rfl) (fun _ => ⟨rfl, rfl⟩) ?_
    refine ax_iload_n dX12_hasWord_24 rfl ?_
    rw [nI_add s.1 0]
    exact ax_zreturn dX12_hasWord_25 rfl (Or.inl rfl) (hq _ (But.rf.wr rfl) ax_wr_eq)
theorem k_takeWord {w : Nat} (hw : w < 19) (ht : tsOK ts) (hE : tsE ts) (hs : sOKs ts s) (hT : TkQ ts So Va) (e145 : h.2.2 145 = some (eM th ta si (nI s.1) (nI s.2) co nm rd ask nw os sw bc bm gg)) (hP : PsR h ts So Va) (hq : ∀ h', But h h' (fun j => j = 145) → h'.2.2 145 = some (eM th ta si (nI (sSkip ts (kwK w) s).1) (nI (sSkip ts (kwK w) s).2) co nm rd ask nw os sw bc bm gg) → Q (.inl none) h') : X G (d + 2) mX12_takeWord 0 (ax_in 2 [.ref 145, .int (nI w)]) [] h Q := by
  have hk12 := kwK_19 w hw
  rw [sSkip_e (by omega) hE hs] at hq
  refine ax_aload_n dX12_takeWord_0 rfl ?_
  refine ax_iload_n dX12_takeWord_1 rfl ?_
  refine ax_cV dX12_takeWord_2 mmX12_hasWord lkX12_169 miX12_hasWord msX12_hasWord (ax_recv_of e145 rfl) rfl rfl (Nat.le_of_ble_eq_true rfl) (Nat.le_of_ble_eq_true rfl) rfl rfl (k_hasWord (d := d) hw ht hs hT e145 hP (fun h1 hb1 e145 => ⟨_, rfl, ?_⟩))
  have hP1 := hP.k1 hb1
  unfold sIf at e145
  by_cases hc : s.2 = 0 ∧ kA ts s.1 = kwK w
  · rw [if_pos hc] at hq e145
    rw [b1_t hc]
    rw [show nI s.2 = nI 0 from by rw [hc.1]] at e145
    refine ax_if_neT 13 dX12_takeWord_5 (by decide) (by decide) ?_
    exact ax_return dX12_takeWord_13 rfl (hq _ hb1 e145)
  · rw [if_neg hc] at hq e145
    rw [b1_f hc]
    refine ax_if_neF 13 dX12_takeWord_5 (by decide) rfl ?_
    refine ax_aload_n dX12_takeWord_8 rfl ?_
    refine ax_iconst dX12_takeWord_9 (v := nI 1) (by decide) ?_
    refine ax_cV dX12_takeWord_10 mmX12_wrong lkX12_162 miX12_wrong msX12_wrong (ax_recv_of e145 rfl) rfl rfl (Nat.le_of_ble_eq_true rfl) (Nat.le_of_ble_eq_true rfl) rfl rfl (k_wrong (d := d + 1) (k := 1) (by omega) ht hs e145 hP1 (fun h2 hb2 e2 => ⟨_, rfl, ?_⟩))
    exact ax_return dX12_takeWord_13 rfl (hq _ (hb1.tr hb2) e2)
theorem k_takeNumber {a b : Nat} (hb : b < 2 ^ 20) (ha : a < 2 ^ 20) (ht : tsOK ts) (hE : tsE ts) (hs : sOKs ts s) (hT : TkQ ts So Va) (e145 : h.2.2 145 = some (eM th ta si (nI s.1) (nI s.2) co nm rd ask nw os sw bc bm gg)) (hP : PsR h ts So Va) (hq : ∀ h', But h h' (fun j => j = 145) → h'.2.2 145 = some (eM th ta si (nI (sNum ts a b s).1) (nI (sNum ts a b s).2) co nm rd ask nw os sw bc bm gg) → Q (.inl (some (.int (nI (if (sNum ts a b s).2 = 0 then nA ts s.1 else 0))))) h') : X G (d + 1) mX12_takeNumber 0 (ax_in 3 [.ref 145, .int (nI a), .int (nI b)]) [] h Q := by
  obtain ⟨⟨f1, f2, f3, e147, e148, e149, qq⟩, -⟩ := id hP
  have hs1 := hs.1
  have hs2 := hs.2
  have ht1 := ht.1
  have hTs := hT s.1 hs1
  obtain ⟨t0, -, t2, t3, -, -, -, -, tl⟩ := id hTs
  obtain ⟨r1, -, r3⟩ := qq s.1 hs1
  have oN : sOKs ts (sNum ts a b s) := sNum_ok ht hs
  have bad : ∀ h1, But h h1 (fun j => j = 145) → ¬ (sNum ts a b s).2 = 0 → h1.2.2 145 = some (eM th ta si (nI (sNum ts a b s).1) (nI (sNum ts a b s).2) co nm rd ask nw os sw bc bm gg) → X G (d + 1) mX12_takeNumber 70 [some (.ref 145), some (.int (nI a)), some (.int (nI b))] [] h1 Q := by
    intro h1 hb1 hn e145
    have := hq h1 hb1 e145
    rw [if_neg hn] at this
    have o2 := oN.2
    refine ax_aload_n dX12_takeNumber_70 rfl ?_
    refine ax_getf dX12_takeNumber_71 flX12_156 e145 rfl ?_
    refine ax_if_leF 79 dX12_takeNumber_74 (by decide) (fun z => absurd (nI_lt (a := 0) (b := (sNum ts a b s).2) (by omega) (by omega)) (Int32.not_lt.mpr z)) ?_
    refine ax_iconst dX12_takeNumber_77 (v := nI 0) (by decide) ?_
    exact ax_ireturn dX12_takeNumber_78 rfl this
  have four : ¬ (sNum ts a b s).2 = 0 → sNum ts a b s = sFail ts 4 s → X G (d + 1) mX12_takeNumber 65 [some (.ref 145), some (.int (nI a)), some (.int (nI b))] [] h Q := by
    intro hn hf
    refine ax_aload_n dX12_takeNumber_65 rfl ?_
    refine ax_iconst dX12_takeNumber_66 (v := nI 4) (by decide) ?_
    refine ax_cV dX12_takeNumber_67 mmX12_wrong lkX12_162 miX12_wrong msX12_wrong (ax_recv_of e145 rfl) rfl rfl (Nat.le_of_ble_eq_true rfl) (Nat.le_of_ble_eq_true rfl) rfl rfl (k_wrong (d := d) (k := 4) (by omega) ht hs e145 hP (fun h1 hb1 e1 => ⟨_, rfl, ?_⟩))
    rw [← hf] at e1
    exact bad h1 hb1 hn e1
  have hN := sNum_e hb ha hE hs hTs
  by_cases h0 : s.2 = 0
  · refine ax_aload_n dX12_takeNumber_0 rfl ?_
    refine ax_getf dX12_takeNumber_1 flX12_156 e145 rfl ?_
    refine ax_if_neF 28 dX12_takeNumber_4 (by decide) (by rw [h0]; rfl) ?_
    refine ax_aload_n dX12_takeNumber_7 rfl ?_
    refine ax_getf dX12_takeNumber_8 flX12_24 e145 rfl ?_
    refine ax_aload_n dX12_takeNumber_11 rfl ?_
    refine ax_getf dX12_takeNumber_12 flX12_153 e145 rfl ?_
    refine ax_iald dX12_takeNumber_15 e147 (ax_ix_nI (j := s.1) (by omega) (by decide)) ?_
    rw [r1]
    by_cases h2 : So s.1 = 2
    · refine ax_iconst dX12_takeNumber_16 (v := nI 2) (by decide) ?_
      refine ax_icmp_eqT 28 dX12_takeNumber_17 (by decide) (by rw [h2]) ?_
      refine ax_aload_n dX12_takeNumber_28 rfl ?_
      refine ax_getf dX12_takeNumber_29 flX12_156 e145 rfl ?_
      refine ax_if_neF 70 dX12_takeNumber_32 (by decide) (by rw [h0]; rfl) ?_
      refine ax_aload_n dX12_takeNumber_35 rfl ?_
      refine ax_getf dX12_takeNumber_36 flX12_30 e145 rfl ?_
      refine ax_aload_n dX12_takeNumber_39 rfl ?_
      refine ax_getf dX12_takeNumber_40 flX12_153 e145 rfl ?_
      refine ax_lald dX12_takeNumber_43 e149 (ax_ix_nI (j := s.1) (by omega) (by decide)) ?_
      rw [r3 (by omega)]
      refine ax_iload_n dX12_takeNumber_44 rfl ?_
      refine ax_i2l dX12_takeNumber_45 ?_
      rw [nI_l (n := a) (by omega)]
      by_cases h3 : Va s.1 < a
      · rw [if_neg (fun z => by omega), if_pos h2] at hN
        refine ax_lcmp dX12_takeNumber_46 ?_
        refine ax_if_ltT 65 dX12_takeNumber_47 (by decide) (lg_lt.mpr ((pk_lLT (by omega) (by omega)).mpr h3)) ?_
        exact four (by rw [hN]; exact sFail_f (by omega)) hN
      · refine ax_lcmp dX12_takeNumber_46 ?_
        refine ax_if_ltF 65 dX12_takeNumber_47 (by decide) (fun z => h3 ((pk_lLT (by omega) (by omega)).mp (lg_lt.mp z))) ?_
        refine ax_aload_n dX12_takeNumber_50 rfl ?_
        refine ax_getf dX12_takeNumber_51 flX12_30 e145 rfl ?_
        refine ax_aload_n dX12_takeNumber_54 rfl ?_
        refine ax_getf dX12_takeNumber_55 flX12_153 e145 rfl ?_
        refine ax_lald dX12_takeNumber_58 e149 (ax_ix_nI (j := s.1) (by omega) (by decide)) ?_
        rw [r3 (by omega)]
        refine ax_iload_n dX12_takeNumber_59 rfl ?_
        refine ax_i2l dX12_takeNumber_60 ?_
        rw [nI_l (n := b) (by omega)]
        by_cases h4 : b < Va s.1
        · rw [if_neg (fun z => by omega), if_pos h2] at hN
          refine ax_lcmp dX12_takeNumber_61 ?_
          refine ax_if_leF 70 dX12_takeNumber_62 (by decide) (fun z => absurd ((pk_lLT (by omega) (by omega)).mpr h4) (Int64.not_lt.mpr (lg_le.mp z))) ?_
          exact four (by rw [hN]; exact sFail_f (by omega)) hN
        · rw [if_pos ⟨h0, h2, by omega, by omega⟩] at hN
          rw [hN, if_pos rfl, nA_va hTs h2] at hq
          refine ax_lcmp dX12_takeNumber_61 ?_
          refine ax_if_leT 70 dX12_takeNumber_62 (by decide) (lg_le.mpr (Int64.not_lt.mp (fun z => h4 ((pk_lLT (by omega) (by omega)).mp z)))) ?_
          refine ax_aload_n dX12_takeNumber_70 rfl ?_
          refine ax_getf dX12_takeNumber_71 flX12_156 e145 rfl ?_
          refine ax_if_leT 79 dX12_takeNumber_74 (by decide) (by rw [h0]; decide) ?_
          refine ax_aload_n dX12_takeNumber_79 rfl ?_
          refine ax_dup dX12_takeNumber_80 rfl ?_
          refine ax_getf dX12_takeNumber_81 flX12_153 e145 rfl ?_
          refine ax_iconst dX12_takeNumber_84 (v := nI 1) (by decide) ?_
          refine ax_iadd dX12_takeNumber_85 ?_
          refine ax_putf dX12_takeNumber_86 flX12_153 e145 (Nat.le_of_ble_eq_true rfl) (fun _ => ⟨rfl, rfl⟩) ?_
          refine ax_aload_n dX12_takeNumber_89 rfl ?_
          refine ax_getf dX12_takeNumber_90 flX12_30 ax_wr_eq rfl ?_
          refine ax_aload_n dX12_takeNumber_93 rfl ?_
          refine ax_getf dX12_takeNumber_94 flX12_153 ax_wr_eq rfl ?_
          refine ax_iconst dX12_takeNumber_97 (v := nI 1) (by decide) ?_
          refine ax_isub dX12_takeNumber_98 ?_
          rw [nI_add s.1 1]
          rw [show nI (s.1 + 1) - nI 1 = nI s.1 from by rw [pk_sub (by omega)]; congr 1]
          refine ax_lald dX12_takeNumber_99 ((ax_wr_ne (by decide)).trans (e149)) (ax_ix_nI (j := s.1) (by omega) (by decide)) ?_
          rw [r3 (by omega)]
          refine ax_l2i dX12_takeNumber_100 ?_
          rw [show (lN (Va s.1)).toInt32 = nI (Va s.1) from by
            have := t3 h2
            rw [← nI_l (by omega)]; exact Int32.toInt32_toInt64 _]
          rw [show nI s.2 = nI 0 from by rw [h0]]
          exact ax_ireturn dX12_takeNumber_101 rfl (hq _ (But.rf.wr rfl) ax_wr_eq)
    · rw [if_neg (fun z => h2 z.2.1), if_neg h2] at hN
      refine ax_iconst dX12_takeNumber_16 (v := nI 2) (by decide) ?_
      refine ax_icmp_eqF 28 dX12_takeNumber_17 (by decide) (fun z => h2 ((nI_eq (by omega) (by omega)).mp z)) ?_
      refine ax_aload_n dX12_takeNumber_20 rfl ?_
      refine ax_iconst dX12_takeNumber_21 (v := nI 1) (by decide) ?_
      refine ax_cV dX12_takeNumber_22 mmX12_wrong lkX12_162 miX12_wrong msX12_wrong (ax_recv_of e145 rfl) rfl rfl (Nat.le_of_ble_eq_true rfl) (Nat.le_of_ble_eq_true rfl) rfl rfl (k_wrong (d := d) (k := 1) (by omega) ht hs e145 hP (fun h1 hb1 e1 => ⟨_, rfl, ?_⟩))
      refine ax_goto 70 dX12_takeNumber_25 (by decide) ?_
      rw [← hN] at e1
      exact bad h1 hb1 (by rw [hN]; exact sFail_f (by omega)) e1
  · have e : sNum ts a b s = s := by
      rw [hN, if_neg (fun z => h0 z.1), sFail_y h0, sFail_y h0]
      split <;> rfl
    refine ax_aload_n dX12_takeNumber_0 rfl ?_
    refine ax_getf dX12_takeNumber_1 flX12_156 e145 rfl ?_
    refine ax_if_neT 28 dX12_takeNumber_4 (by decide) (fun z => h0 ((nI_eq (by omega) (by omega)).mp z)) ?_
    refine ax_aload_n dX12_takeNumber_28 rfl ?_
    refine ax_getf dX12_takeNumber_29 flX12_156 e145 rfl ?_
    refine ax_if_neT 70 dX12_takeNumber_32 (by decide) (fun z => h0 ((nI_eq (by omega) (by omega)).mp z)) ?_
    exact bad h But.rf (by rw [e]; exact h0) (by rw [e]; exact e145)
theorem k_takeAfter {w a b : Nat} (hw : w < 19) (hb : b < 2 ^ 20) (ha : a < 2 ^ 20) (ht : tsOK ts) (hE : tsE ts) (hs : sOKs ts s) (hT : TkQ ts So Va) (e145 : h.2.2 145 = some (eM th ta si (nI s.1) (nI s.2) co nm rd ask nw os sw bc bm gg)) (hP : PsR h ts So Va) (hq : ∀ h', But h h' (fun j => j = 145) → h'.2.2 145 = some (eM th ta si (nI (sNum ts a b (sSkip ts (kwK w) s)).1) (nI (sNum ts a b (sSkip ts (kwK w) s)).2) co nm rd ask nw os sw bc bm gg) → Q (.inl (some (.int (nI (if (sNum ts a b (sSkip ts (kwK w) s)).2 = 0 then nA ts (sSkip ts (kwK w) s).1 else 0))))) h') : X G (d + 3) mX12_takeAfter 0 (ax_in 4 [.ref 145, .int (nI w), .int (nI a), .int (nI b)]) [] h Q := by
  refine ax_aload_n dX12_takeAfter_0 rfl ?_
  refine ax_iload_n dX12_takeAfter_1 rfl ?_
  refine ax_cV dX12_takeAfter_2 mmX12_takeWord lkX12_172 miX12_takeWord msX12_takeWord (ax_recv_of e145 rfl) rfl rfl (Nat.le_of_ble_eq_true rfl) (Nat.le_of_ble_eq_true rfl) rfl rfl (k_takeWord (d := d) hw ht hE hs hT e145 hP (fun h1 hb1 e145 => ⟨_, rfl, ?_⟩))
  refine ax_aload_n dX12_takeAfter_5 rfl ?_
  refine ax_iload_n dX12_takeAfter_6 rfl ?_
  refine ax_iload_n dX12_takeAfter_7 rfl ?_
  refine ax_cV dX12_takeAfter_8 mmX12_takeNumber lkX12_175 miX12_takeNumber msX12_takeNumber (ax_recv_of e145 rfl) rfl rfl (Nat.le_of_ble_eq_true rfl) (Nat.le_of_ble_eq_true rfl) rfl rfl (k_takeNumber (d := d + 1) hb ha ht hE (sSkip_ok ht hs) hT e145 (hP.k1 hb1) (fun h2 hb2 e2 => ⟨_, rfl, ?_⟩))
  exact ax_ireturn dX12_takeAfter_11 rfl (hq _ (hb1.tr hb2) e2)
end MPA
