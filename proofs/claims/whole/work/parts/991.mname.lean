/-! ===== the model's names ===== -/
section MNA
variable {G : ax_G} {d : Nat} {h : ax_H} {Q : ax_O → ax_H → Prop}
variable {th ta si pt fa co nm rd ask nw os sw bc bm : Int32} {gg : Int64}
variable {ts : List CT} {So Va : Nat → Nat} {s : Nat × Nat}
theorem k_isName (ht : tsOK ts) (hs : sOKs ts s) (hT : TkQ ts So Va) (e145 : h.2.2 145 = some (eM th ta si (nI s.1) (nI s.2) co nm rd ask nw os sw bc bm gg)) (hP : PsR h ts So Va) (hq : Q (.inl (some (.int (b1 (s.2 = 0 ∧ isNm (kA ts s.1)))))) h) : X G d mX12_isName 0 (ax_in 3 [.ref 145]) [] h Q := by
  obtain ⟨⟨f1, f2, f3, e147, e148, e149, qq⟩, ⟨fw, e150, qw⟩, -⟩ := id hP
  have hs1 := hs.1
  have hs2 := hs.2
  have ht1 := ht.1
  obtain ⟨t0, -, -, -, -, -, t6, -, tl⟩ := hT s.1 hs1
  obtain ⟨r1, -, r3⟩ := qq s.1 hs1
  have loop0 : ∀ (m i : Nat), i + m = 16 → ¬ (s.2 = 0 ∧ isNm (kA ts s.1)) → X G d mX12_isName 28 [some (.ref 145), some (.int (nI 0)), some (.int (nI i))] [] h Q := by
    intro m
    induction m with
    | zero =>
      intro i hi hn
      rw [b1_f hn] at hq
      refine ax_iload_n dX12_isName_28 rfl ?_
      refine ax_bipush dX12_isName_29 (v := nI 16) (by decide) ?_
      refine ax_icmp_geT 69 dX12_isName_31 (by decide) (nI_le (by omega) (by omega)) ?_
      refine ax_iload_n dX12_isName_69 rfl ?_
      exact ax_zreturn dX12_isName_70 rfl (Or.inl rfl) hq
    | succ m ih =>
      intro i hi hn
      refine ax_iload_n dX12_isName_28 rfl ?_
      refine ax_bipush dX12_isName_29 (v := nI 16) (by decide) ?_
      refine ax_icmp_geF 69 dX12_isName_31 (by decide) (nI_ge (by omega) (by omega)) ?_
      refine ax_iload_n dX12_isName_34 rfl ?_
      refine ax_if_eqT 61 dX12_isName_35 (by decide) rfl ?_
      refine ax_iconst dX12_isName_61 (v := nI 0) (by decide) ?_
      refine ax_istore_n dX12_isName_62 (Nat.le_of_ble_eq_true rfl) ?_
      refine ax_iinc dX12_isName_63 rfl (ax_inc 1) ?_
      refine ax_goto 28 dX12_isName_66 (by decide) ?_
      rw [nI_add i 1]
      exact ih (i + 1) (by omega) hn
  have loop1 : ∀ (m i : Nat), i + m = 16 → s.2 = 0 → So s.1 = 1 → (∀ j, j < i → Va s.1 ≠ wv (KW j)) → X G d mX12_isName 28 [some (.ref 145), some (.int (nI 1)), some (.int (nI i))] [] h Q := by
    intro m
    induction m with
    | zero =>
      intro i hi h0 h1 hj
      rw [b1_t ⟨h0, t6.mpr ⟨h1, fun j z => hj j (by omega)⟩⟩] at hq
      refine ax_iload_n dX12_isName_28 rfl ?_
      refine ax_bipush dX12_isName_29 (v := nI 16) (by decide) ?_
      refine ax_icmp_geT 69 dX12_isName_31 (by decide) (nI_le (by omega) (by omega)) ?_
      refine ax_iload_n dX12_isName_69 rfl ?_
      exact ax_zreturn dX12_isName_70 rfl (Or.inr rfl) hq
    | succ m ih =>
      intro i hi h0 h1 hj
      have hsg := wv_lt (KW_ls i (by omega)).1 (KW_ls i (by omega)).2.1
      refine ax_iload_n dX12_isName_28 rfl ?_
      refine ax_bipush dX12_isName_29 (v := nI 16) (by decide) ?_
      refine ax_icmp_geF 69 dX12_isName_31 (by decide) (nI_ge (by omega) (by omega)) ?_
      refine ax_iload_n dX12_isName_34 rfl ?_
      refine ax_if_eqF 61 dX12_isName_35 (by decide) (by decide) ?_
      refine ax_aload_n dX12_isName_38 rfl ?_
      refine ax_getf dX12_isName_39 flX12_30 e145 rfl ?_
      refine ax_aload_n dX12_isName_42 rfl ?_
      refine ax_getf dX12_isName_43 flX12_153 e145 rfl ?_
      refine ax_lald dX12_isName_46 e149 (ax_ix_nI (j := s.1) (by omega) (by decide)) ?_
      rw [r3 (by omega)]
      refine ax_aload_n dX12_isName_47 rfl ?_
      refine ax_getf dX12_isName_48 flX12_72 e145 rfl ?_
      refine ax_iload_n dX12_isName_51 rfl ?_
      refine ax_lald dX12_isName_52 e150 (ax_ix_nI (j := i) (by omega) (by decide)) ?_
      rw [qw i (by omega)]
      by_cases hv : Va s.1 = wv (KW i)
      · refine ax_lcmp dX12_isName_53 ?_
        refine ax_if_eqT 61 dX12_isName_54 (by decide) (lg_cmp0.mpr (by rw [hv])) ?_
        refine ax_iconst dX12_isName_61 (v := nI 0) (by decide) ?_
        refine ax_istore_n dX12_isName_62 (Nat.le_of_ble_eq_true rfl) ?_
        refine ax_iinc dX12_isName_63 rfl (ax_inc 1) ?_
        refine ax_goto 28 dX12_isName_66 (by decide) ?_
        rw [nI_add i 1]
        exact loop0 m (i + 1) (by omega) (fun z => (t6.mp z.2).2 i (by omega) hv)
      · refine ax_lcmp dX12_isName_53 ?_
        refine ax_if_eqF 61 dX12_isName_54 (by decide) (fun z => hv ((pk_lEQ (by omega) (by omega)).mp (lg_cmp0.mp z))) ?_
        refine ax_iconst dX12_isName_57 (v := nI 1) (by decide) ?_
        refine ax_goto 62 dX12_isName_58 (by decide) ?_
        refine ax_istore_n dX12_isName_62 (Nat.le_of_ble_eq_true rfl) ?_
        refine ax_iinc dX12_isName_63 rfl (ax_inc 1) ?_
        refine ax_goto 28 dX12_isName_66 (by decide) ?_
        rw [nI_add i 1]
        refine ih (i + 1) (by omega) h0 h1 (fun j z => ?_)
        by_cases hji : j = i
        · rw [hji]; exact hv
        · exact hj j (by omega)
  by_cases h0 : s.2 = 0
  · refine ax_aload_n dX12_isName_0 rfl ?_
    refine ax_getf dX12_isName_1 flX12_156 e145 rfl ?_
    refine ax_if_neF 24 dX12_isName_4 (by decide) (by rw [h0]; rfl) ?_
    refine ax_aload_n dX12_isName_7 rfl ?_
    refine ax_getf dX12_isName_8 flX12_24 e145 rfl ?_
    refine ax_aload_n dX12_isName_11 rfl ?_
    refine ax_getf dX12_isName_12 flX12_153 e145 rfl ?_
    refine ax_iald dX12_isName_15 e147 (ax_ix_nI (j := s.1) (by omega) (by decide)) ?_
    rw [r1]
    by_cases h1 : So s.1 = 1
    · refine ax_iconst dX12_isName_16 (v := nI 1) (by decide) ?_
      refine ax_icmp_neF 24 dX12_isName_17 (by decide) (by rw [h1]) ?_
      refine ax_iconst dX12_isName_20 (v := nI 1) (by decide) ?_
      refine ax_goto 25 dX12_isName_21 (by decide) ?_
      refine ax_istore_n dX12_isName_25 (Nat.le_of_ble_eq_true rfl) ?_
      refine ax_iconst dX12_isName_26 (v := nI 0) (by decide) ?_
      refine ax_istore_n dX12_isName_27 (Nat.le_of_ble_eq_true rfl) ?_
      exact loop1 16 0 rfl h0 h1 (fun j z => absurd z (Nat.not_lt_zero _))
    · refine ax_iconst dX12_isName_16 (v := nI 1) (by decide) ?_
      refine ax_icmp_neT 24 dX12_isName_17 (by decide) (fun z => h1 ((nI_eq (by omega) (by omega)).mp z)) ?_
      refine ax_iconst dX12_isName_24 (v := nI 0) (by decide) ?_
      refine ax_istore_n dX12_isName_25 (Nat.le_of_ble_eq_true rfl) ?_
      refine ax_iconst dX12_isName_26 (v := nI 0) (by decide) ?_
      refine ax_istore_n dX12_isName_27 (Nat.le_of_ble_eq_true rfl) ?_
      exact loop0 16 0 rfl (fun z => h1 (t6.mp z.2).1)
  · refine ax_aload_n dX12_isName_0 rfl ?_
    refine ax_getf dX12_isName_1 flX12_156 e145 rfl ?_
    refine ax_if_neT 24 dX12_isName_4 (by decide) (fun z => h0 ((nI_eq (by omega) (by omega)).mp z)) ?_
    refine ax_iconst dX12_isName_24 (v := nI 0) (by decide) ?_
    refine ax_istore_n dX12_isName_25 (Nat.le_of_ble_eq_true rfl) ?_
    refine ax_iconst dX12_isName_26 (v := nI 0) (by decide) ?_
    refine ax_istore_n dX12_isName_27 (Nat.le_of_ble_eq_true rfl) ?_
    exact loop0 16 0 rfl (fun z => h0 z.1)
/-- the model's table of names, searched -/
def fnM (f : Nat → Int64) (g : Nat → Int32) (n : Nat) (v : Int64) : Int32 := match fst (fun k => f k == v) 0 n with
  | some k => g k
  | none => -1
theorem k_find {n : Nat} {f : Nat → Int64} {g : Nat → Int32} (hn : n ≤ 12) (h1 : ¬ So s.1 = 0) (ht : tsOK ts) (hs : sOKs ts s) (e145 : h.2.2 145 = some (eM th ta si (nI s.1) (nI s.2) co (nI n) rd ask nw os sw bc bm gg)) (hP : PsR h ts So Va) (e154 : h.2.2 154 = some (eJ 12 f)) (e155 : h.2.2 155 = some (eI 12 g)) (hq : Q (.inl (some (.int (fnM f g n (lN (Va s.1)))))) h) : X G d mX12_find 0 (ax_in 2 [.ref 145]) [] h Q := by
  obtain ⟨⟨f1, f2, f3, e147, e148, e149, qq⟩, -⟩ := id hP
  have hs1 := hs.1
  have ht1 := ht.1
  obtain ⟨-, -, r3⟩ := qq s.1 hs1
  obtain ⟨Z, hZ⟩ : ∃ Z, fst (fun k => f k == lN (Va s.1)) 0 n = Z := ⟨_, rfl⟩
  unfold fnM at hq
  rw [hZ] at hq
  have loop : ∀ (m i : Nat), i + m = n → fst (fun k => f k == lN (Va s.1)) i m = Z → X G d mX12_find 2 [some (.ref 145), some (.int (nI i))] [] h Q := by
    intro m
    induction m with
    | zero =>
      intro i hi hf
      have hf' : none = Z := hf
      rw [← hf'] at hq
      refine ax_iload_n dX12_find_2 rfl ?_
      refine ax_aload_n dX12_find_3 rfl ?_
      refine ax_getf dX12_find_4 flX12_179 e145 rfl ?_
      refine ax_icmp_geT 42 dX12_find_7 (by decide) (nI_le (by omega) (by omega)) ?_
      refine ax_iconst dX12_find_42 (v := -1) (by decide) ?_
      exact ax_ireturn dX12_find_43 rfl hq
    | succ m ih =>
      intro i hi hf
      refine ax_iload_n dX12_find_2 rfl ?_
      refine ax_aload_n dX12_find_3 rfl ?_
      refine ax_getf dX12_find_4 flX12_179 e145 rfl ?_
      refine ax_icmp_geF 42 dX12_find_7 (by decide) (nI_ge (by omega) (by omega)) ?_
      refine ax_aload_n dX12_find_10 rfl ?_
      refine ax_getf dX12_find_11 flX12_84 e145 rfl ?_
      refine ax_iload_n dX12_find_14 rfl ?_
      refine ax_lald dX12_find_15 e154 (ax_ix_nI (j := i) (by omega) (by decide)) ?_
      refine ax_aload_n dX12_find_16 rfl ?_
      refine ax_getf dX12_find_17 flX12_30 e145 rfl ?_
      refine ax_aload_n dX12_find_20 rfl ?_
      refine ax_getf dX12_find_21 flX12_153 e145 rfl ?_
      refine ax_lald dX12_find_24 e149 (ax_ix_nI (j := s.1) (by omega) (by decide)) ?_
      rw [r3 h1]
      unfold fst at hf
      by_cases hv : f i = lN (Va s.1)
      · rw [if_pos (show (f i == lN (Va s.1)) = true from beq_iff_eq.mpr hv)] at hf
        rw [← hf] at hq
        refine ax_lcmp dX12_find_25 ?_
        refine ax_if_neF 36 dX12_find_26 (by decide) (lg_cmp0.mpr hv) ?_
        refine ax_aload_n dX12_find_29 rfl ?_
        refine ax_getf dX12_find_30 flX12_87 e145 rfl ?_
        refine ax_iload_n dX12_find_33 rfl ?_
        refine ax_iald dX12_find_34 e155 (ax_ix_nI (j := i) (by omega) (by decide)) ?_
        exact ax_ireturn dX12_find_35 rfl hq
      · rw [if_neg (show ¬ (f i == lN (Va s.1)) = true from fun z => hv (beq_iff_eq.mp z))] at hf
        refine ax_lcmp dX12_find_25 ?_
        refine ax_if_neT 36 dX12_find_26 (by decide) (fun z => hv (lg_cmp0.mp z)) ?_
        refine ax_iinc dX12_find_36 rfl (ax_inc 1) ?_
        refine ax_goto 2 dX12_find_39 (by decide) ?_
        rw [nI_add i 1]
        exact ih (i + 1) (by omega) hf
  refine ax_iconst dX12_find_0 (v := nI 0) (by decide) ?_
  refine ax_istore_n dX12_find_1 (Nat.le_of_ble_eq_true rfl) ?_
  exact loop n 0 (by omega) hZ
def nmR (p s : Option Nat) : Int32 := match p with
  | some p => nI p
  | none => match s with
    | some s => nI (7 + s)
    | none => -1
abbrev sOf (ts : List CT) (D : DD) (a : Nat) : Option Nat := nmOf D.2.2.1 (nS D.1) (vA ts a)
def NmI (ts : List CT) (Va : Nat → Nat) (f : Nat → Int64) (g : Nat → Int32) (n : Nat) (D : DD) : Prop := n = nS D.1 + nP D.1 ∧ ∀ a, a < ts.length → isNm (kA ts a) → fnM f g n (lN (Va a)) = nmR (pOf ts D a) (sOf ts D a) ∧ (pOf ts D a = none ∨ sOf ts D a = none)
theorem fst_snoc {P : Nat → Bool} : ∀ (m i : Nat), fst P i (m + 1) = match fst P i m with
    | some k => some k
    | none => if P (i + m) then some (i + m) else none
  | 0, i => rfl
  | m + 1, i => by
    show (if P i then some i else fst P (i + 1) (m + 1)) = match (if P i then some i else fst P (i + 1) m) with
      | some k => some k
      | none => if P (i + (m + 1)) then some (i + (m + 1)) else none
    by_cases hp : P i = true
    · rw [if_pos hp, if_pos hp]
    · rw [if_neg hp, if_neg hp, fst_snoc m (i + 1), show i + 1 + m = i + (m + 1) by omega]
theorem nmOf_up {f : Nat → Int64} {n : Nat} {v w : Int64} : nmOf (upJ f n v) (n + 1) w = match nmOf f n w with
    | some k => some k
    | none => if v = w then some n else none := by
  unfold nmOf
  rw [fst_snoc, fst_cong (P' := fun i => f i == w) n 0 (fun j _ z => by unfold upJ; rw [if_neg (by omega)])]
  cases fst (fun i => f i == w) 0 n with
  | some k => rfl
  | none =>
    dsimp only
    rw [Nat.zero_add]
    unfold upJ
    rw [if_pos rfl]
    by_cases hv : v = w
    · rw [if_pos hv, if_pos (beq_iff_eq.mpr hv)]
    · rw [if_neg hv, if_neg (fun z => hv (beq_iff_eq.mp z))]
theorem fnM_up {f : Nat → Int64} {g : Nat → Int32} {n : Nat} {v w : Int64} {x : Int32} : fnM (vp_updL f n v) (upd g n x) (n + 1) w = match fst (fun k => f k == w) 0 n with
    | some k => g k
    | none => if v = w then x else -1 := by
  unfold fnM
  rw [fst_snoc, fst_cong (P' := fun i => f i == w) n 0 (fun j _ z => by unfold vp_updL; rw [if_neg (by omega)])]
  cases hf : fst (fun i => f i == w) 0 n with
  | some k =>
    have := (fst_lt hf).2.1
    dsimp only
    unfold upd
    rw [if_neg (by omega)]
  | none =>
    dsimp only
    rw [Nat.zero_add]
    unfold vp_updL
    rw [if_pos rfl]
    by_cases hv : v = w
    · rw [if_pos hv, if_pos (beq_iff_eq.mpr hv)]; exact if_pos rfl
    · rw [if_neg hv, if_neg (fun z => hv (beq_iff_eq.mp z))]
theorem tkQ_nm (hT : TkQ ts So Va) {a b : Nat} (ha : a < ts.length) (hb : b < ts.length) (h1 : isNm (kA ts a)) (h2 : isNm (kA ts b)) : lN (Va b) = lN (Va a) ↔ vA ts b = vA ts a := by
  obtain ⟨w, w1, w2, w3, w4⟩ := (hT a ha).2.2.2.2.2.2.2.1 h1
  obtain ⟨u, u1, u2, u3, u4⟩ := (hT b hb).2.2.2.2.2.2.2.1 h2
  rw [w3, w4, u3, u4]
  have := wv_lt w1 w2
  have := wv_lt u1 u2
  have := w5_lt w1 w2
  have := w5_lt u1 u2
  constructor
  · intro e
    rw [wv_inj u1 w1 ((pk_lEQ (by omega) (by omega)).mp e)]
  · intro e
    rw [w5_inj u1 w1 ((pk_lEQ (by omega) (by omega)).mp e)]
theorem nmR_m1 {p q : Option Nat} (hp : ∀ j, p = some j → j < 7) (hq : ∀ j, q = some j → j < 5) : nmR p q = -1 ↔ p = none ∧ q = none := by
  have ne : ∀ j : Nat, j < 12 → ¬ nI j = -1 := by decide
  cases p with
  | some a => exact ⟨fun z => absurd z (ne a (by have := hp a rfl; omega)), fun z => by cases z.1⟩
  | none =>
    cases q with
    | some b => exact ⟨fun z => absurd z (ne (7 + b) (by have := hq b rfl; omega)), fun z => by cases z.2⟩
    | none => exact ⟨fun _ => ⟨rfl, rfl⟩, fun _ => rfl⟩
theorem fnM_m1 {f : Nat → Int64} {g : Nat → Int32} {n : Nat} {w : Int64} (hg : ∀ k, k < n → ¬ g k = -1) (h : fnM f g n w = -1) : fst (fun k => f k == w) 0 n = none := by
  unfold fnM at h
  cases hf : fst (fun k => f k == w) 0 n with
  | none => rfl
  | some k => rw [hf] at h; exact absurd h (hg k (by have := (fst_lt hf).2.1; omega))
end MNA
