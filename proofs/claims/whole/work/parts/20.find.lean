section FN
variable {G : ax_G} {d : Nat} {h : ax_H} {Q : ax_O → ax_H → Prop} {N : Nt} {σ : Sd}
def bI : Bool → Int32
  | true => nI 1
  | false => nI 0
theorem bI_01 (b : Bool) : bI b = 0 ∨ bI b = 1 := by cases b <;> decide
def upN (B : Nat → Nat) (k v : Nat) : Nat → Nat := fun j => if j = k then v else B j
/-- one road bettered, all roads, and so on while it betters -/
def im1 (N : Nt) (p : Nat → Nat) (r : Nat) (B : Nat → Nat) (b : Bool) : (Nat → Nat) × Bool :=
  if B (N.1 4 r) + p r < B (N.1 3 r) then (upN B (N.1 3 r) (B (N.1 4 r) + p r), true) else if B (N.1 3 r) + p r < B (N.1 4 r) then (upN B (N.1 4 r) (B (N.1 3 r) + p r), true) else (B, b)
def imN (N : Nt) (p : Nat → Nat) : Nat → (Nat → Nat) → (Nat → Nat) × Bool
  | 0, B => (B, false)
  | i + 1, B => im1 N p i (imN N p i B).1 (imN N p i B).2
theorem c_improve {p B0 : Nat → Nat} {f0 : Nat → Int32} {mm pp : Int32} (hN : nOK N) (hL : Land h N) (hp : ∀ r, p r ≤ 536870912) (hP : isA h 140 10 (nR N) p) (e138 : h.2.2 138 = some (eWf mm pp)) (e141 : h.2.2 141 = some (eI 7 f0)) (hf0 : ∀ j, j < 7 → f0 j = nI (B0 j)) (hB0 : ∀ j, B0 j ≤ 536870912)
    (hq : ∀ f, (∀ j, j < 7 → f j = nI ((imN N p (nR N) B0).1 j)) → (∀ j, (imN N p (nR N) B0).1 j ≤ 536870912) → Q (.inl (some (.int (bI (imN N p (nR N) B0).2)))) (ax_wr h 141 (eI 7 f))) : X G d mX9_improve 0 (ax_in 5 [.ref 138]) [] h Q := by
  obtain ⟨⟨co, hl, e89, -⟩, -, -, ⟨rf, e94, hrf⟩, ⟨rt, e95, hrt⟩, -⟩ := hL
  obtain ⟨pf, e140, hpf⟩ := hP
  have hR := hN.2.2.1
  have hPl := hN.2.1
  have loop : ∀ (m i : Nat) (f : Nat → Int32) (o3 o4 : Option Value), i + m = nR N → (∀ j, j < 7 → f j = nI ((imN N p i B0).1 j)) → (∀ j, (imN N p i B0).1 j ≤ 536870912) → X G d mX9_improve 4 [some (.ref 138), some (.int (bI (imN N p i B0).2)), some (.int (nI i)), o3, o4] [] (ax_wr h 141 (eI 7 f)) Q := by
    intro m
    induction m with
    | zero =>
      intro i f o3 o4 hi hf hB
      obtain rfl : i = nR N := by omega
      refine ax_iload_n dX9_improve_4 rfl ?_
      refine ax_aload_n dX9_improve_5 rfl ?_
      refine ax_getf dX9_improve_6 flX9_21 ((ax_wr_ne (by decide)).trans (e138)) rfl ?_
      refine ax_getf dX9_improve_9 flX9_29 ((ax_wr_ne (by decide)).trans (e89)) rfl ?_
      refine ax_icmp_geT 135 dX9_improve_12 (by decide) (Int32.le_refl _) ?_
      refine ax_iload_n dX9_improve_135 rfl ?_
      exact ax_zreturn dX9_improve_136 rfl (bI_01 _) (hq f hf hB)
    | succ m ih =>
      intro i f o3 o4 hi hf hB
      have hrd := hN.2.2.2.2.2.1 i (by omega)
      have hpi := hp i
      generalize hBb : imN N p i B0 = Bb at hf hB ⊢
      obtain ⟨B, b⟩ := Bb
      simp only at hf hB ⊢
      have hstep : imN N p (i + 1) B0 = im1 N p i B b := by show im1 N p i (imN N p i B0).1 (imN N p i B0).2 = _; rw [hBb]
      have k3 := hB (N.1 3 i)
      have k4 := hB (N.1 4 i)
      refine ax_iload_n dX9_improve_4 rfl ?_
      refine ax_aload_n dX9_improve_5 rfl ?_
      refine ax_getf dX9_improve_6 flX9_21 ((ax_wr_ne (by decide)).trans (e138)) rfl ?_
      refine ax_getf dX9_improve_9 flX9_29 ((ax_wr_ne (by decide)).trans (e89)) rfl ?_
      refine ax_icmp_geF 135 dX9_improve_12 (by decide) (nI_ge (by omega) (by omega)) ?_
      refine ax_aload_n dX9_improve_15 rfl ?_
      refine ax_getf dX9_improve_16 flX9_21 ((ax_wr_ne (by decide)).trans (e138)) rfl ?_
      refine ax_getf dX9_improve_19 flX9_69 ((ax_wr_ne (by decide)).trans (e89)) rfl ?_
      refine ax_iload_n dX9_improve_22 rfl ?_
      refine ax_iald dX9_improve_23 ((ax_wr_ne (by decide)).trans (e94)) (ax_ix_nI (by omega) (by decide)) ?_
      rw [hrf i (by omega)]
      refine ax_istore_n dX9_improve_24 (Nat.le_of_ble_eq_true rfl) ?_
      refine ax_aload_n dX9_improve_25 rfl ?_
      refine ax_getf dX9_improve_26 flX9_21 ((ax_wr_ne (by decide)).trans (e138)) rfl ?_
      refine ax_getf dX9_improve_29 flX9_72 ((ax_wr_ne (by decide)).trans (e89)) rfl ?_
      refine ax_iload_n dX9_improve_32 rfl ?_
      refine ax_iald dX9_improve_33 ((ax_wr_ne (by decide)).trans (e95)) (ax_ix_nI (by omega) (by decide)) ?_
      rw [hrt i (by omega)]
      refine ax_istore dX9_improve_34 (Nat.le_of_ble_eq_true rfl) ?_
      refine ax_aload_n dX9_improve_36 rfl ?_
      refine ax_getf dX9_improve_37 flX9_18 ((ax_wr_ne (by decide)).trans (e138)) rfl ?_
      refine ax_iload dX9_improve_40 rfl ?_
      refine ax_iald dX9_improve_42 ax_wr_eq (ax_ix_nI (by omega) (by decide)) ?_
      rw [hf _ (by omega)]
      refine ax_aload_n dX9_improve_43 rfl ?_
      refine ax_getf dX9_improve_44 flX9_15 ((ax_wr_ne (by decide)).trans (e138)) rfl ?_
      refine ax_iload_n dX9_improve_47 rfl ?_
      refine ax_iald dX9_improve_48 ((ax_wr_ne (by decide)).trans (e140)) (ax_ix_nI (by omega) (by decide)) ?_
      rw [hpf i (by omega)]
      refine ax_iadd dX9_improve_49 ?_
      rw [nI_add]
      refine ax_aload_n dX9_improve_50 rfl ?_
      refine ax_getf dX9_improve_51 flX9_18 ((ax_wr_ne (by decide)).trans (e138)) rfl ?_
      refine ax_iload_n dX9_improve_54 rfl ?_
      refine ax_iald dX9_improve_55 ax_wr_eq (ax_ix_nI (by omega) (by decide)) ?_
      rw [hf _ (by omega)]
      unfold im1 at hstep
      by_cases h1 : B (N.1 4 i) + p i < B (N.1 3 i)
      · rw [if_pos h1] at hstep
        refine ax_icmp_geF 84 dX9_improve_56 (by decide) (nI_ge h1 (by omega)) ?_
        refine ax_aload_n dX9_improve_59 rfl ?_
        refine ax_getf dX9_improve_60 flX9_18 ((ax_wr_ne (by decide)).trans (e138)) rfl ?_
        refine ax_iload_n dX9_improve_63 rfl ?_
        refine ax_aload_n dX9_improve_64 rfl ?_
        refine ax_getf dX9_improve_65 flX9_18 ((ax_wr_ne (by decide)).trans (e138)) rfl ?_
        refine ax_iload dX9_improve_68 rfl ?_
        refine ax_iald dX9_improve_70 ax_wr_eq (ax_ix_nI (by omega) (by decide)) ?_
        rw [hf _ (by omega)]
        refine ax_aload_n dX9_improve_71 rfl ?_
        refine ax_getf dX9_improve_72 flX9_15 ((ax_wr_ne (by decide)).trans (e138)) rfl ?_
        refine ax_iload_n dX9_improve_75 rfl ?_
        refine ax_iald dX9_improve_76 ((ax_wr_ne (by decide)).trans (e140)) (ax_ix_nI (by omega) (by decide)) ?_
        rw [hpf i (by omega)]
        refine ax_iadd dX9_improve_77 ?_
        rw [nI_add]
        refine ax_iast dX9_improve_78 ax_wr_eq (ax_ix_nI (by omega) (by decide)) ?_
        rw [ax_wr_wr]
        refine ax_iconst dX9_improve_79 (v := nI 1) (by decide) ?_
        refine ax_istore_n dX9_improve_80 (Nat.le_of_ble_eq_true rfl) ?_
        refine ax_goto 129 dX9_improve_81 (by decide) ?_
        refine ax_iinc dX9_improve_129 rfl (ax_inc 1) ?_
        refine ax_goto 4 dX9_improve_132 (by decide) ?_
        rw [nI_add]
        have := ih (i + 1) (upd f (N.1 3 i) (nI (B (N.1 4 i) + p i))) (some (.int (nI (N.1 3 i)))) (some (.int (nI (N.1 4 i)))) (by omega) (by
          rw [hstep]
          intro j hj
          simp only [upd, upN]
          by_cases hj2 : j = N.1 3 i
          · rw [if_pos hj2, if_pos hj2]
          · rw [if_neg hj2, if_neg hj2]; exact hf j hj) (by
          rw [hstep]
          intro j
          simp only [upN]
          by_cases hj2 : j = N.1 3 i
          · rw [if_pos hj2]; omega
          · rw [if_neg hj2]; exact hB j)
        rw [hstep] at this
        exact this
      · rw [if_neg h1] at hstep
        refine ax_icmp_geT 84 dX9_improve_56 (by decide) (nI_le (by omega) (by omega)) ?_
        refine ax_aload_n dX9_improve_84 rfl ?_
        refine ax_getf dX9_improve_85 flX9_18 ((ax_wr_ne (by decide)).trans (e138)) rfl ?_
        refine ax_iload_n dX9_improve_88 rfl ?_
        refine ax_iald dX9_improve_89 ax_wr_eq (ax_ix_nI (by omega) (by decide)) ?_
        rw [hf _ (by omega)]
        refine ax_aload_n dX9_improve_90 rfl ?_
        refine ax_getf dX9_improve_91 flX9_15 ((ax_wr_ne (by decide)).trans (e138)) rfl ?_
        refine ax_iload_n dX9_improve_94 rfl ?_
        refine ax_iald dX9_improve_95 ((ax_wr_ne (by decide)).trans (e140)) (ax_ix_nI (by omega) (by decide)) ?_
        rw [hpf i (by omega)]
        refine ax_iadd dX9_improve_96 ?_
        rw [nI_add]
        refine ax_aload_n dX9_improve_97 rfl ?_
        refine ax_getf dX9_improve_98 flX9_18 ((ax_wr_ne (by decide)).trans (e138)) rfl ?_
        refine ax_iload dX9_improve_101 rfl ?_
        refine ax_iald dX9_improve_103 ax_wr_eq (ax_ix_nI (by omega) (by decide)) ?_
        rw [hf _ (by omega)]
        by_cases h2 : B (N.1 3 i) + p i < B (N.1 4 i)
        · rw [if_pos h2] at hstep
          refine ax_icmp_geF 129 dX9_improve_104 (by decide) (nI_ge h2 (by omega)) ?_
          refine ax_aload_n dX9_improve_107 rfl ?_
          refine ax_getf dX9_improve_108 flX9_18 ((ax_wr_ne (by decide)).trans (e138)) rfl ?_
          refine ax_iload dX9_improve_111 rfl ?_
          refine ax_aload_n dX9_improve_113 rfl ?_
          refine ax_getf dX9_improve_114 flX9_18 ((ax_wr_ne (by decide)).trans (e138)) rfl ?_
          refine ax_iload_n dX9_improve_117 rfl ?_
          refine ax_iald dX9_improve_118 ax_wr_eq (ax_ix_nI (by omega) (by decide)) ?_
          rw [hf _ (by omega)]
          refine ax_aload_n dX9_improve_119 rfl ?_
          refine ax_getf dX9_improve_120 flX9_15 ((ax_wr_ne (by decide)).trans (e138)) rfl ?_
          refine ax_iload_n dX9_improve_123 rfl ?_
          refine ax_iald dX9_improve_124 ((ax_wr_ne (by decide)).trans (e140)) (ax_ix_nI (by omega) (by decide)) ?_
          rw [hpf i (by omega)]
          refine ax_iadd dX9_improve_125 ?_
          rw [nI_add]
          refine ax_iast dX9_improve_126 ax_wr_eq (ax_ix_nI (by omega) (by decide)) ?_
          rw [ax_wr_wr]
          refine ax_iconst dX9_improve_127 (v := nI 1) (by decide) ?_
          refine ax_istore_n dX9_improve_128 (Nat.le_of_ble_eq_true rfl) ?_
          refine ax_iinc dX9_improve_129 rfl (ax_inc 1) ?_
          refine ax_goto 4 dX9_improve_132 (by decide) ?_
          rw [nI_add]
          have := ih (i + 1) (upd f (N.1 4 i) (nI (B (N.1 3 i) + p i))) (some (.int (nI (N.1 3 i)))) (some (.int (nI (N.1 4 i)))) (by omega) (by
            rw [hstep]
            intro j hj
            simp only [upd, upN]
            by_cases hj2 : j = N.1 4 i
            · rw [if_pos hj2, if_pos hj2]
            · rw [if_neg hj2, if_neg hj2]; exact hf j hj) (by
            rw [hstep]
            intro j
            simp only [upN]
            by_cases hj2 : j = N.1 4 i
            · rw [if_pos hj2]; omega
            · rw [if_neg hj2]; exact hB j)
          rw [hstep] at this
          exact this
        · rw [if_neg h2] at hstep
          refine ax_icmp_geT 129 dX9_improve_104 (by decide) (nI_le (by omega) (by omega)) ?_
          refine ax_iinc dX9_improve_129 rfl (ax_inc 1) ?_
          refine ax_goto 4 dX9_improve_132 (by decide) ?_
          rw [nI_add]
          have := ih (i + 1) f (some (.int (nI (N.1 3 i)))) (some (.int (nI (N.1 4 i)))) (by omega) (by rw [hstep]; exact hf) (by rw [hstep]; exact hB)
          rw [hstep] at this
          exact this
  refine ax_iconst dX9_improve_0 (v := nI 0) (by decide) ?_
  refine ax_istore_n dX9_improve_1 (Nat.le_of_ble_eq_true rfl) ?_
  refine ax_iconst dX9_improve_2 (v := nI 0) (by decide) ?_
  refine ax_istore_n dX9_improve_3 (Nat.le_of_ble_eq_true rfl) ?_
  have := loop (nR N) 0 f0 none none (by omega) hf0 hB0
  rw [ax_wr_id e141] at this
  exact this
/-- the least road from a on which the best goes down just so -/
def frs (N : Nt) (p B : Nat → Nat) (a i : Nat) : Bool := match oth N i a with
  | none => false
  | some o => B o + p i == B a
def fst (P : Nat → Bool) : Nat → Nat → Option Nat
  | _, 0 => none
  | i, m + 1 => if P i then some i else fst P (i + 1) m
theorem oth_lt {r a o : Nat} (hN : nOK N) (hr : r < nR N) (h : oth N r a = some o) : o < 7 := by
  have hrd := hN.2.2.2.2.2.1 r hr
  have := hN.2.1
  unfold oth at h
  by_cases h1 : N.1 3 r = a
  · rw [if_pos h1] at h; cases h; omega
  · rw [if_neg h1] at h
    by_cases h2 : N.1 4 r = a
    · rw [if_pos h2] at h; cases h; omega
    · rw [if_neg h2] at h; cases h
theorem c_firstRoad {p B : Nat → Nat} {f : Nat → Int32} {mm pp : Int32} {a : Nat} (ha : a < 7) (hN : nOK N) (hL : Land h N) (hp : ∀ r, p r ≤ 536870912) (hP : isA h 140 10 (nR N) p) (e138 : h.2.2 138 = some (eWf mm pp)) (e141 : h.2.2 141 = some (eI 7 f)) (hf : ∀ j, j < 7 → f j = nI (B j)) (hB : ∀ j, B j ≤ 536870912)
    (hq : Q (.inl (some (.int (on (fst (frs N p B a) 0 (nR N)))))) h) : X G (d + 1) mX9_firstRoad 0 (ax_in 4 [.ref 138, .int (nI a)]) [] h Q := by
  obtain ⟨⟨co, hl, e89, -⟩, -⟩ := id hL
  obtain ⟨pf, e140, hpf⟩ := hP
  have hR := hN.2.2.1
  have loop : ∀ (m i : Nat) (o3 : Option Value), i + m = nR N → Q (.inl (some (.int (on (fst (frs N p B a) i m))))) h → X G (d + 1) mX9_firstRoad 2 [some (.ref 138), some (.int (nI a)), some (.int (nI i)), o3] [] h Q := by
    intro m
    induction m with
    | zero =>
      intro i o3 hi hq
      obtain rfl : i = nR N := by omega
      refine ax_iload_n dX9_firstRoad_2 rfl ?_
      refine ax_aload_n dX9_firstRoad_3 rfl ?_
      refine ax_getf dX9_firstRoad_4 flX9_21 e138 rfl ?_
      refine ax_getf dX9_firstRoad_7 flX9_29 e89 rfl ?_
      refine ax_icmp_geT 58 dX9_firstRoad_10 (by decide) (Int32.le_refl _) ?_
      refine ax_iconst dX9_firstRoad_58 (v := -1) (by decide) ?_
      exact ax_ireturn dX9_firstRoad_59 rfl hq
    | succ m ih =>
      intro i o3 hi hq
      have hpi := hp i
      refine ax_iload_n dX9_firstRoad_2 rfl ?_
      refine ax_aload_n dX9_firstRoad_3 rfl ?_
      refine ax_getf dX9_firstRoad_4 flX9_21 e138 rfl ?_
      refine ax_getf dX9_firstRoad_7 flX9_29 e89 rfl ?_
      refine ax_icmp_geF 58 dX9_firstRoad_10 (by decide) (nI_ge (by omega) (by omega)) ?_
      refine ax_aload_n dX9_firstRoad_13 rfl ?_
      refine ax_getf dX9_firstRoad_14 flX9_21 e138 rfl ?_
      refine ax_iload_n dX9_firstRoad_17 rfl ?_
      refine ax_iload_n dX9_firstRoad_18 rfl ?_
      refine ax_cV dX9_firstRoad_19 mmX1_otherEnd lkX9_66 miX1_otherEnd msX1_otherEnd (ax_recv_of e89 rfl) rfl rfl (Nat.le_of_ble_eq_true rfl) (Nat.le_of_ble_eq_true rfl) rfl rfl (c_otherEnd (by omega) hN ha hL ⟨_, rfl, ?_⟩)
      unfold fst at hq
      cases ho : oth N i a with
      | none =>
        refine ax_istore_n dX9_firstRoad_22 (Nat.le_of_ble_eq_true rfl) ?_
        refine ax_iload_n dX9_firstRoad_23 rfl ?_
        refine ax_iconst dX9_firstRoad_24 (v := -1) (by decide) ?_
        refine ax_icmp_eqT 52 dX9_firstRoad_25 (by decide) rfl ?_
        refine ax_iinc dX9_firstRoad_52 rfl (ax_inc 1) ?_
        refine ax_goto 2 dX9_firstRoad_55 (by decide) ?_
        rw [nI_add]
        refine ih (i + 1) _ (by omega) ?_
        rw [if_neg (by simp [frs, ho])] at hq
        exact hq
      | some o =>
        have ho7 := oth_lt hN (by omega) ho
        refine ax_istore_n dX9_firstRoad_22 (Nat.le_of_ble_eq_true rfl) ?_
        refine ax_iload_n dX9_firstRoad_23 rfl ?_
        refine ax_iconst dX9_firstRoad_24 (v := -1) (by decide) ?_
        refine ax_icmp_eqF 52 dX9_firstRoad_25 (by decide) (fun q => absurd (show nI o < 0 by rw [show nI o = -1 from q]; decide) (nI_pos (by omega))) ?_
        refine ax_aload_n dX9_firstRoad_28 rfl ?_
        refine ax_getf dX9_firstRoad_29 flX9_18 e138 rfl ?_
        refine ax_iload_n dX9_firstRoad_32 rfl ?_
        refine ax_iald dX9_firstRoad_33 e141 (ax_ix_nI ho7 (by decide)) ?_
        rw [hf _ ho7]
        refine ax_aload_n dX9_firstRoad_34 rfl ?_
        refine ax_getf dX9_firstRoad_35 flX9_15 e138 rfl ?_
        refine ax_iload_n dX9_firstRoad_38 rfl ?_
        refine ax_iald dX9_firstRoad_39 e140 (ax_ix_nI (by omega) (by decide)) ?_
        rw [hpf i (by omega)]
        refine ax_iadd dX9_firstRoad_40 ?_
        rw [nI_add]
        refine ax_aload_n dX9_firstRoad_41 rfl ?_
        refine ax_getf dX9_firstRoad_42 flX9_18 e138 rfl ?_
        refine ax_iload_n dX9_firstRoad_45 rfl ?_
        refine ax_iald dX9_firstRoad_46 e141 (ax_ix_nI ha (by decide)) ?_
        rw [hf _ ha]
        have kb := hB o
        have kc := hB a
        by_cases he : B o + p i = B a
        · rw [if_pos (by simp [frs, ho, he])] at hq
          refine ax_icmp_neF 52 dX9_firstRoad_47 (by decide) (by rw [he]) ?_
          refine ax_iload_n dX9_firstRoad_50 rfl ?_
          exact ax_ireturn dX9_firstRoad_51 rfl hq
        · rw [if_neg (by simp [frs, ho, he])] at hq
          refine ax_icmp_neT 52 dX9_firstRoad_47 (by decide) (fun q => he ((nI_eq (by omega) (by omega)).mp q)) ?_
          refine ax_iinc dX9_firstRoad_52 rfl (ax_inc 1) ?_
          refine ax_goto 2 dX9_firstRoad_55 (by decide) ?_
          rw [nI_add]
          exact ih (i + 1) _ (by omega) hq
  refine ax_iconst dX9_firstRoad_0 (v := nI 0) (by decide) ?_
  refine ax_istore_n dX9_firstRoad_1 (Nat.le_of_ble_eq_true rfl) ?_
  exact loop (nR N) 0 none (by omega) hq
end FN
