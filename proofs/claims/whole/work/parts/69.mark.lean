section MA
variable {G : ax_G} {d : Nat} {M : ax_M} {pc : Nat} {lv : List (Option Value)} {st : List Value} {h : ax_H} {Q : ax_O → ax_H → Prop} {N : Nt} {σ : Sd}
theorem ax_ifnn {r : Nat} {off : Int} (tgt : Nat) (hd : decode M.2.1 pc = .ok (.ifnonnull off, 3)) (ht : (pc : Int) + off = (tgt : Int)) (kk : X G d M tgt lv st h Q) : X G d M pc lv (.ref r :: st) h Q :=
  ax_go (st := .ref r :: st) (st' := st) (fun _ _ _ _ _ _ _ _ _ _ _ _ _ _ _ ok C hL _ w => lv_ifnonnull C.1 C.2.1 hd ht w) kk
theorem ax_ifnnN {off : Int} (hd : decode M.2.1 pc = .ok (.ifnonnull off, 3)) (kk : X G d M (pc + 3) lv st h Q) : X G d M pc lv (.null :: st) h Q :=
  ax_go (st := .null :: st) (st' := st) (fun _ _ _ _ _ _ _ _ _ _ _ _ _ _ _ ok C hL _ w => lv_ifnonnullN C.1 C.2.1 hd w) kk
theorem nI_inj {a b : Nat} (ha : a < 2 ^ 31) (hb : b < 2 ^ 31) (h : nI a = nI b) : a = b := by
  have := congrArg Int32.toNatClampNeg h
  rwa [nI_clamp ha, nI_clamp hb] at this
def upO (μ : Nat → Option Sd) (m : Nat) (v : Option Sd) : Nat → Option Sd := fun i => if i = m then v else μ i
theorem upO_eq {μ : Nat → Option Sd} {m : Nat} {v : Option Sd} : upO μ m v m = v := if_pos rfl
theorem upO_ne {μ : Nat → Option Sd} {m i : Nat} {v : Option Sd} (hne : i ≠ m) : upO μ m v i = μ i := if_neg hne
/-- the marks: f tells where each lies, μ what it holds -/
def MkF (h : ax_H) (N : Nt) (μ : Nat → Option Sd) (f : Nat → Option Nat) (g : Nat → Int32) : Prop :=
  h.2.2 129 = some (eQ 4 f) ∧ h.2.2 130 = some (eZ 4 g) ∧ 168 ≤ h.1 ∧ (∀ m, m < 4 → g m = if (μ m).isSome then 1 else 0) ∧
  (∀ m k, m < 4 → f m = some k → 168 ≤ k ∧ k + 9 ≤ h.1 ∧ anSt h k 40 ∧ ∀ τ, μ m = some τ → StIs h k 40 N τ) ∧
  (∀ m τ, m < 4 → μ m = some τ → ∃ k, f m = some k) ∧
  (∀ m m' k k', m < 4 → m' < 4 → m ≠ m' → f m = some k → f m' = some k' → k + 8 < k' ∨ k' + 8 < k)
def MkR (h : ax_H) (N : Nt) (μ : Nat → Option Sd) : Prop := ∃ f g, MkF h N μ f g
/-- nothing below 168 has changed but the marks' rows and what P names, and little was made -/
def Mar (h h' : ax_H) (P : Nat → Prop) : Prop := h.1 ≤ h'.1 ∧ h'.1 ≤ h.1 + 9 ∧ h'.2.1 ≤ h.2.1 + 2200 ∧ ∀ j, j < 168 → j ≠ 129 → j ≠ 130 → ¬ P j → h'.2.2 j = h.2.2 j
theorem anSt.kept2 {h' : ax_H} {k kp : Nat} (hk : ∀ j, k ≤ j → j ≤ k + 8 → h'.2.2 j = h.2.2 j) (a : anSt h k kp) : anSt h' k kp := a.kept hk
theorem c_mark {x b : Int32} {μ : Nat → Option Sd} (hN : nOK N) (hC : Cs h N σ) (hM : MkR h N μ)
    (hq0 : (¬ ∃ m, m < 4 ∧ x = nI m ∧ (b = 0 ∨ (μ m).isSome)) → Q (.inl (some (.int 0))) h)
    (hq1 : ∀ m, m < 4 → x = nI m → b = 0 → ∀ h', Mar h h' (fun _ => False) → Cs h' N σ → MkR h' N (upO μ m (some σ)) → Q (.inl (some (.int 1))) h')
    (hq2 : ∀ m τ, m < 4 → x = nI m → ¬ b = 0 → μ m = some τ → ∀ h', Mar h h' (fun j => 106 ≤ j ∧ j ≤ 114) → Cs h' N τ → MkR h' N μ → Q (.inl (some (.int 1))) h') : X G (d + 3) mX11_mark 0 (ax_in 3 [.ref 64, .int x, .int b]) [] h Q := by
  obtain ⟨⟨dr, e64⟩, -⟩ := id hC
  obtain ⟨f, g, e129, e130, h168, hg, hf, hfm, hfs⟩ := hM
  by_cases g1 : x < 0
  · refine ax_iload_n dX11_mark_0 rfl ?_
    refine ax_if_ltT 22 dX11_mark_1 (by decide) g1 ?_
    refine ax_iconst dX11_mark_22 (v := nI 0) (by decide) ?_
    exact ax_zreturn dX11_mark_23 rfl ((Or.inl rfl)) (hq0 (fun ⟨m, hm, q, _⟩ => absurd g1 (by rw [q]; exact nI_pos (by omega))))
  by_cases g2 : nI 4 ≤ x
  · refine ax_iload_n dX11_mark_0 rfl ?_
    refine ax_if_ltF 22 dX11_mark_1 (by decide) g1 ?_
    refine ax_iload_n dX11_mark_4 rfl ?_
    refine ax_iconst dX11_mark_5 (v := nI 4) (by decide) ?_
    refine ax_icmp_geT 22 dX11_mark_6 (by decide) g2 ?_
    refine ax_iconst dX11_mark_22 (v := nI 0) (by decide) ?_
    exact ax_zreturn dX11_mark_23 rfl ((Or.inl rfl)) (hq0 (fun ⟨m, hm, q, _⟩ => absurd g2 (by rw [q]; exact nI_ge hm (by omega))))
  obtain ⟨m, hm', rfl⟩ := nI_of g1
  have hm : m < 4 := Nat.lt_of_not_le (fun q => g2 (nI_le q (by omega)))
  have hinj : ∀ m', m' < 4 → nI m = nI m' → m = m' := fun m' h' q => nI_inj (by omega) (by omega) q
  have tail0 : b = 0 → ∀ (h1 : ax_H) (f1 : Nat → Option Nat) (k : Nat), Mar h h1 (fun _ => False) → Cs h1 N σ → h1.2.2 129 = some (eQ 4 f1) → h1.2.2 130 = some (eZ 4 g) → f1 m = some k → 168 ≤ k → k + 9 ≤ h1.1 → anSt h1 k 40 → (∀ m' k', m' < 4 → m' ≠ m → f1 m' = some k' → 168 ≤ k' ∧ k' + 9 ≤ h1.1 ∧ anSt h1 k' 40 ∧ (∀ τ, μ m' = some τ → StIs h1 k' 40 N τ) ∧ (k + 8 < k' ∨ k' + 8 < k)) → (∀ m' τ, m' < 4 → m' ≠ m → μ m' = some τ → ∃ k', f1 m' = some k') → (∀ m1 m2 k1 k2, m1 < 4 → m2 < 4 → m1 ≠ m2 → m1 ≠ m → m2 ≠ m → f1 m1 = some k1 → f1 m2 = some k2 → k1 + 8 < k2 ∨ k2 + 8 < k1) → X G (d + 3) mX11_mark 48 [some (.ref 64), some (.int (nI m)), some (.int b)] [] h1 Q := by
    intro hb h1 f1 k hMar hC1 e129 e130 hfk hk hk9 hA hoth hsome hsep
    obtain ⟨⟨dr, e64⟩, hL1, hE1, hA1, hT1, hS1⟩ := id hC1
    obtain ⟨y, ek⟩ := hA.1
    refine ax_iload_n dX11_mark_48 rfl ?_
    refine ax_if_eqT 68 dX11_mark_49 (by decide) hb ?_
    refine ax_aload_n dX11_mark_68 rfl ?_
    refine ax_getf dX11_mark_69 flX11_61 e64 rfl ?_
    refine ax_iload_n dX11_mark_72 rfl ?_
    refine ax_aald dX11_mark_73 e129 (by decide) (ax_ix_nI (j := m) hm (by decide)) (v := .ref k) (by rw [hfk]; rfl) ?_
    refine ax_aload_n dX11_mark_74 rfl ?_
    refine ax_getf dX11_mark_75 flX11_47 e64 rfl ?_
    refine ax_cV dX11_mark_78 mmX3_takeAll lkX11_292 miX3_takeAll msX3_takeAll (ax_recv_of ek rfl) rfl rfl (Nat.le_of_ble_eq_true rfl) (Nat.le_of_ble_eq_true rfl) rfl rfl (c_takeAll (d := d) (k := k) (j := 106) (Or.inr (by omega)) hN hA hE1 (fun h2 hb2 hE2 => ⟨_, rfl, ?_⟩))
    have kp2 : ∀ j, (j < k ∨ k + 8 < j) → h2.2.2 j = h1.2.2 j := fun j z => hb2.2.2 j (by omega)
    have e64 := (kp2 64 (by omega)).trans e64
    have e130 := (kp2 130 (by omega)).trans e130
    refine ax_aload_n dX11_mark_81 rfl ?_
    refine ax_getf dX11_mark_82 flX11_65 e64 rfl ?_
    refine ax_iload_n dX11_mark_85 rfl ?_
    refine ax_iconst dX11_mark_86 (v := nI 1) (by decide) ?_
    refine ax_zast dX11_mark_87 e130 (ax_ix_nI (j := m) hm (by decide)) rfl ?_
    refine ax_iconst dX11_mark_88 (v := nI 1) (by decide) ?_
    refine ax_zreturn dX11_mark_89 rfl (Or.inr rfl) (hq1 m hm rfl hb _ ⟨?_, ?_, ?_, ?_⟩ ?_ ?_)
    · show h.1 ≤ h2.1
      rw [hb2.1]; exact hMar.1
    · show h2.1 ≤ _
      rw [hb2.1]; exact hMar.2.1
    · show h2.2.1 ≤ _
      rw [hb2.2.1]; exact hMar.2.2.1
    · intro j z1 z2 z3 z4
      exact (ax_wr_ne z3).trans ((kp2 j (by omega)).trans (hMar.2.2.2 j z1 z2 z3 z4))
    · have kk : ∀ j, j < 168 → j ≠ 129 → j ≠ 130 → (ax_wr h2 130 (eZ 4 (upd g m 1))).2.2 j = h1.2.2 j := fun j z1 z2 z3 => (ax_wr_ne z3).trans (kp2 j (by omega))
      exact ⟨⟨dr, (kk 64 (by omega) (by omega) (by omega)).trans ((kp2 64 (by omega)).symm.trans e64)⟩, hL1.kept (fun j z1 z2 => kk j (by omega) (by omega) (by omega)), hE1.kept (fun j z1 z2 => kk j (by omega) (by omega) (by omega)), hA1.kept (fun j z1 z2 => kk j (by omega) (by omega) (by omega)), hT1.kept (fun j z1 z2 => kk j (by omega) (by omega) (by omega)), hS1.kept (fun j z1 z2 => kk j (by omega) (by omega) (by omega))⟩
    · refine ⟨f1, upd g m 1, (ax_wr_ne (by omega)).trans ((kp2 129 (by omega)).trans e129), ax_wr_eq, ?_, ?_, ?_, ?_, ?_⟩
      · show 168 ≤ h2.1
        rw [hb2.1]; have := hMar.1; omega
      · intro m' hm'
        rw [updI]
        by_cases hmm : m' = m
        · subst hmm
          rw [if_pos rfl, upO_eq]
          rfl
        · rw [if_neg hmm, upO_ne hmm]
          exact hg m' hm'
      · intro m' k' hm' hf'
        have kk : ∀ j, 168 ≤ j → (j < k ∨ k + 8 < j) → (ax_wr h2 130 (eZ 4 (upd g m 1))).2.2 j = h1.2.2 j := fun j z1 z2 => (ax_wr_ne (by omega)).trans (kp2 j z2)
        by_cases hmm : m' = m
        · subst hmm
          have ekk : k' = k := Option.some.inj (hf'.symm.trans hfk)
          subst ekk
          have hE3 : StIs (ax_wr h2 130 (eZ 4 (upd g m' 1))) k' 40 N σ := hE2.kept (fun j z1 z2 => ax_wr_ne (by omega))
          refine ⟨hk, (by show k' + 9 ≤ h2.1; rw [hb2.1]; exact hk9), hE3.any, fun τ hτ => ?_⟩
          rw [upO_eq] at hτ
          cases hτ
          exact hE3
        · obtain ⟨o1, o2, o3, o4, o5⟩ := hoth m' k' hm' hmm hf'
          refine ⟨o1, (by show k' + 9 ≤ h2.1; rw [hb2.1]; exact o2), o3.kept (fun j z1 z2 => kk j (by omega) (by omega)), fun τ hτ => ?_⟩
          rw [upO_ne hmm] at hτ
          exact (o4 τ hτ).kept (fun j z1 z2 => kk j (by omega) (by omega))
      · intro m' τ hm' hτ
        by_cases hmm : m' = m
        · exact ⟨k, by rw [hmm]; exact hfk⟩
        · rw [upO_ne hmm] at hτ
          exact hsome m' τ hm' hmm hτ
      · intro m1 m2 k1 k2 hm1 hm2 h12 hf1 hf2
        by_cases h1m : m1 = m
        · subst h1m
          cases hf1.symm.trans hfk
          exact (hoth m2 k2 hm2 (Ne.symm h12) hf2).2.2.2.2
        · by_cases h2m : m2 = m
          · subst h2m
            cases hf2.symm.trans hfk
            exact (hoth m1 k1 hm1 h1m hf1).2.2.2.2.symm
          · exact hsep m1 m2 k1 k2 hm1 hm2 h12 h1m h2m hf1 hf2
  have at24 : (b = 0 ∨ (μ m).isSome) → X G (d + 3) mX11_mark 24 [some (.ref 64), some (.int (nI m)), some (.int b)] [] h Q := by
    intro hgo
    refine ax_aload_n dX11_mark_24 rfl ?_
    refine ax_getf dX11_mark_25 flX11_61 e64 rfl ?_
    refine ax_iload_n dX11_mark_28 rfl ?_
    cases hfk : f m with
    | some k =>
      obtain ⟨o1, o2, o3, o4⟩ := hf m k hm hfk
      refine ax_aald dX11_mark_29 e129 (by decide) (ax_ix_nI (j := m) hm (by decide)) (v := .ref k) (by rw [hfk]; rfl) ?_
      refine ax_ifnn 48 dX11_mark_30 (by decide) ?_
      by_cases hb : b = 0
      · exact tail0 hb h f k ⟨Nat.le_refl _, by omega, by omega, fun _ _ _ _ _ => rfl⟩ hC e129 e130 hfk o1 o2 o3 (fun m' k' hm' hne hf' => by
          obtain ⟨p1, p2, p3, p4⟩ := hf m' k' hm' hf'
          exact ⟨p1, p2, p3, p4, hfs m m' k k' hm hm' (Ne.symm hne) hfk hf'⟩) (fun m' τ hm' _ hτ => hfm m' τ hm' hτ) (fun m1 m2 k1 k2 q1 q2 q3 _ _ q6 q7 => hfs m1 m2 k1 k2 q1 q2 q3 q6 q7)
      · obtain ⟨τ, hτ⟩ := Option.isSome_iff_exists.mp (hgo.resolve_left hb)
        have hEk := o4 τ hτ
        obtain ⟨-, hL, hE, hA, hT, hS⟩ := id hC
        have e106 := hE.1
        refine ax_iload_n dX11_mark_48 rfl ?_
        refine ax_if_eqF 68 dX11_mark_49 (by decide) hb ?_
        refine ax_aload_n dX11_mark_52 rfl ?_
        refine ax_getf dX11_mark_53 flX11_47 e64 rfl ?_
        refine ax_aload_n dX11_mark_56 rfl ?_
        refine ax_getf dX11_mark_57 flX11_61 e64 rfl ?_
        refine ax_iload_n dX11_mark_60 rfl ?_
        refine ax_aald dX11_mark_61 e129 (by decide) (ax_ix_nI (j := m) hm (by decide)) (v := .ref k) (by rw [hfk]; rfl) ?_
        refine ax_cV dX11_mark_62 mmX3_takeAll lkX11_292 miX3_takeAll msX3_takeAll (ax_recv_of e106 rfl) rfl rfl (Nat.le_of_ble_eq_true rfl) (Nat.le_of_ble_eq_true rfl) rfl rfl (c_takeAll (d := d) (k := 106) (j := k) (Or.inl (by omega)) hN hE.any hEk (fun h2 hb2 hE2 => ⟨_, rfl, ?_⟩))
        have kp2 : ∀ j, (j < 106 ∨ 114 < j) → h2.2.2 j = h.2.2 j := fun j z => hb2.2.2 j (by omega)
        refine ax_goto 88 dX11_mark_65 (by decide) ?_
        refine ax_iconst dX11_mark_88 (v := nI 1) (by decide) ?_
        refine ax_zreturn dX11_mark_89 rfl (Or.inr rfl) (hq2 m τ hm rfl hb hτ _ ⟨?_, ?_, ?_, ?_⟩ ?_ ?_)
        · rw [hb2.1]; exact Nat.le_refl _
        · rw [hb2.1]; omega
        · rw [hb2.2.1]; omega
        · intro j z1 z2 z3 z4
          exact hb2.2.2 j z4
        · exact ⟨⟨dr, (kp2 64 (by omega)).trans e64⟩, hL.kept (fun j z1 z2 => kp2 j (by omega)), hE2, hA.kept (fun j z1 z2 => kp2 j (by omega)), hT.kept (fun j z1 z2 => kp2 j (by omega)), hS.kept (fun j z1 z2 => kp2 j (by omega))⟩
        · refine ⟨f, g, (kp2 129 (by omega)).trans e129, (kp2 130 (by omega)).trans e130, (by rw [hb2.1]; exact h168), hg, fun m' k' hm' hf' => ?_, hfm, hfs⟩
          obtain ⟨p1, p2, p3, p4⟩ := hf m' k' hm' hf'
          exact ⟨p1, (by rw [hb2.1]; exact p2), p3.kept (fun j z1 z2 => kp2 j (by omega)), fun τ' hτ' => (p4 τ' hτ').kept (fun j z1 z2 => kp2 j (by omega))⟩
    | none =>
      have hb : b = 0 := hgo.resolve_right (fun q => by
        obtain ⟨τ, hτ⟩ := Option.isSome_iff_exists.mp q
        obtain ⟨k, hk⟩ := hfm m τ hm hτ
        rw [hfk] at hk
        cases hk)
      refine ax_aald dX11_mark_29 e129 (by decide) (ax_ix_nI (j := m) hm (by decide)) (v := .null) (by rw [hfk]; rfl) ?_
      refine ax_ifnnN dX11_mark_30 ?_
      refine ax_aload_n dX11_mark_33 rfl ?_
      refine ax_getf dX11_mark_34 flX11_61 e64 rfl ?_
      refine ax_iload_n dX11_mark_37 rfl ?_
      refine ax_newo dX11_mark_38 nwX11_42 (fun _ => rfl) ?_
      refine ax_dup dX11_mark_41 rfl ?_
      refine ax_bipush dX11_mark_42 (v := nI 40) (by decide) ?_
      refine ax_hp HL_one ?_
      refine ax_cI dX11_mark_44 mmX3_init lkX11_44 miX3_init rfl rfl rfl rfl (Nat.le_of_ble_eq_true rfl) (Nat.le_of_ble_eq_true rfl) rfl rfl (i_X3 (d := d + 1) (kp := 40) (by omega) ⟨_, rfl, ?_⟩)
      have hz : ∀ j, j < h.1 → (HL h h.1 (h.2.1 + 10 + 10 + 50 + 50 + 5 + 6 + 6 + 5 + 40 * 10 * 5) [.inr (2, [.int 0, .ref (h.1 + 1), .ref (h.1 + 2), .ref (h.1 + 3), .ref (h.1 + 4), .ref (h.1 + 5), .ref (h.1 + 6), .ref (h.1 + 7), .ref (h.1 + 8), .int (nI 40)]), eI 10 (fun _ => 0), eI 50 (fun _ => 0), eI 50 (fun _ => 0), eI 5 (fun _ => 0), eI 6 (fun _ => 0), eI 6 (fun _ => 0), eI 5 (fun _ => 0), eI (40 * 10 * 5) (fun _ => 0)]).2.2 j = h.2.2 j := fun j hj => HL_lt hj
      have hA1 : anSt (HL h h.1 (h.2.1 + 10 + 10 + 50 + 50 + 5 + 6 + 6 + 5 + 40 * 10 * 5) [.inr (2, [.int 0, .ref (h.1 + 1), .ref (h.1 + 2), .ref (h.1 + 3), .ref (h.1 + 4), .ref (h.1 + 5), .ref (h.1 + 6), .ref (h.1 + 7), .ref (h.1 + 8), .int (nI 40)]), eI 10 (fun _ => 0), eI 50 (fun _ => 0), eI 50 (fun _ => 0), eI 5 (fun _ => 0), eI 6 (fun _ => 0), eI 6 (fun _ => 0), eI 5 (fun _ => 0), eI (40 * 10 * 5) (fun _ => 0)]) h.1 40 := ⟨⟨_, HL_at0 rfl⟩, ⟨_, HL_at (i := 1) rfl⟩, ⟨_, HL_at (i := 2) rfl⟩, ⟨_, HL_at (i := 3) rfl⟩, ⟨_, HL_at (i := 4) rfl⟩, ⟨_, HL_at (i := 5) rfl⟩, ⟨_, HL_at (i := 6) rfl⟩, ⟨_, HL_at (i := 7) rfl⟩, ⟨_, HL_at (i := 8) rfl⟩⟩
      have hsz : (HL h h.1 (h.2.1 + 10 + 10 + 50 + 50 + 5 + 6 + 6 + 5 + 40 * 10 * 5) [.inr (2, [.int 0, .ref (h.1 + 1), .ref (h.1 + 2), .ref (h.1 + 3), .ref (h.1 + 4), .ref (h.1 + 5), .ref (h.1 + 6), .ref (h.1 + 7), .ref (h.1 + 8), .int (nI 40)]), eI 10 (fun _ => 0), eI 50 (fun _ => 0), eI 50 (fun _ => 0), eI 5 (fun _ => 0), eI 6 (fun _ => 0), eI 6 (fun _ => 0), eI 5 (fun _ => 0), eI (40 * 10 * 5) (fun _ => 0)]).1 = h.1 + 9 ∧ (HL h h.1 (h.2.1 + 10 + 10 + 50 + 50 + 5 + 6 + 6 + 5 + 40 * 10 * 5) [.inr (2, [.int 0, .ref (h.1 + 1), .ref (h.1 + 2), .ref (h.1 + 3), .ref (h.1 + 4), .ref (h.1 + 5), .ref (h.1 + 6), .ref (h.1 + 7), .ref (h.1 + 8), .int (nI 40)]), eI 10 (fun _ => 0), eI 50 (fun _ => 0), eI 50 (fun _ => 0), eI 5 (fun _ => 0), eI 6 (fun _ => 0), eI 6 (fun _ => 0), eI 5 (fun _ => 0), eI (40 * 10 * 5) (fun _ => 0)]).2.1 ≤ h.2.1 + 2200 := ⟨rfl, by show _ + 10 + 10 + 50 + 50 + 5 + 6 + 6 + 5 + 40 * 10 * 5 ≤ _; omega⟩
      generalize (HL h h.1 (h.2.1 + 10 + 10 + 50 + 50 + 5 + 6 + 6 + 5 + 40 * 10 * 5) [.inr (2, [.int 0, .ref (h.1 + 1), .ref (h.1 + 2), .ref (h.1 + 3), .ref (h.1 + 4), .ref (h.1 + 5), .ref (h.1 + 6), .ref (h.1 + 7), .ref (h.1 + 8), .int (nI 40)]), eI 10 (fun _ => 0), eI 50 (fun _ => 0), eI 50 (fun _ => 0), eI 5 (fun _ => 0), eI 6 (fun _ => 0), eI 6 (fun _ => 0), eI 5 (fun _ => 0), eI (40 * 10 * 5) (fun _ => 0)]) = h1 at hz hA1 hsz ⊢
      have e129' := (hz 129 (by omega)).trans e129
      obtain ⟨y, ek⟩ := id hA1.1
      refine ax_aast dX11_mark_47 e129' (by decide) (ax_ix_nI (j := m) hm (by decide)) ek rfl ?_
      have kk : ∀ j, j < h.1 → j ≠ 129 → (ax_wr h1 129 (eQ 4 (va_up f m (some h.1)))).2.2 j = h.2.2 j := fun j z1 z2 => (ax_wr_ne z2).trans (hz j z1)
      have hfo : ∀ m', m' ≠ m → va_up f m (some h.1) m' = f m' := fun m' hne => if_neg hne
      obtain ⟨-, hL, hE, hA, hT, hS⟩ := id hC
      refine tail0 hb (ax_wr h1 129 (eQ 4 (va_up f m (some h.1)))) (va_up f m (some h.1)) h.1 ⟨?_, ?_, hsz.2, fun j z1 z2 _ _ => kk j (by omega) z2⟩ ⟨⟨dr, (kk 64 (by omega) (by omega)).trans e64⟩, hL.kept (fun j z1 z2 => kk j (by omega) (by omega)), hE.kept (fun j z1 z2 => kk j (by omega) (by omega)), hA.kept (fun j z1 z2 => kk j (by omega) (by omega)), hT.kept (fun j z1 z2 => kk j (by omega) (by omega)), hS.kept (fun j z1 z2 => kk j (by omega) (by omega))⟩ ax_wr_eq ((kk 130 (by omega) (by omega)).trans e130) (if_pos rfl) h168 ?_ (hA1.kept (fun j z1 z2 => ax_wr_ne (by omega))) ?_ ?_ ?_
      · show h.1 ≤ h1.1
        omega
      · show h1.1 ≤ _
        omega
      · show h.1 + 9 ≤ h1.1
        omega
      · intro m' k' hm' hne hf'
        rw [hfo m' hne] at hf'
        obtain ⟨p1, p2, p3, p4⟩ := hf m' k' hm' hf'
        exact ⟨p1, (by show k' + 9 ≤ h1.1; omega), p3.kept (fun j z1 z2 => kk j (by omega) (by omega)), fun τ hτ => (p4 τ hτ).kept (fun j z1 z2 => kk j (by omega) (by omega)), Or.inr (by omega)⟩
      · intro m' τ hm' hne hτ
        obtain ⟨k', hk'⟩ := hfm m' τ hm' hτ
        exact ⟨k', by rw [hfo m' hne]; exact hk'⟩
      · intro m1 m2 k1 k2 q1 q2 q3 q4 q5 q6 q7
        rw [hfo m1 q4] at q6
        rw [hfo m2 q5] at q7
        exact hfs m1 m2 k1 k2 q1 q2 q3 q6 q7
  by_cases hb : b = 0
  · refine ax_iload_n dX11_mark_0 rfl ?_
    refine ax_if_ltF 22 dX11_mark_1 (by decide) g1 ?_
    refine ax_iload_n dX11_mark_4 rfl ?_
    refine ax_iconst dX11_mark_5 (v := nI 4) (by decide) ?_
    refine ax_icmp_geF 22 dX11_mark_6 (by decide) g2 ?_
    refine ax_iload_n dX11_mark_9 rfl ?_
    refine ax_if_eqT 24 dX11_mark_10 (by decide) hb ?_
    exact at24 (Or.inl hb)
  · refine ax_iload_n dX11_mark_0 rfl ?_
    refine ax_if_ltF 22 dX11_mark_1 (by decide) g1 ?_
    refine ax_iload_n dX11_mark_4 rfl ?_
    refine ax_iconst dX11_mark_5 (v := nI 4) (by decide) ?_
    refine ax_icmp_geF 22 dX11_mark_6 (by decide) g2 ?_
    refine ax_iload_n dX11_mark_9 rfl ?_
    refine ax_if_eqF 24 dX11_mark_10 (by decide) hb ?_
    refine ax_aload_n dX11_mark_13 rfl ?_
    refine ax_getf dX11_mark_14 flX11_65 e64 rfl ?_
    refine ax_iload_n dX11_mark_17 rfl ?_
    refine ax_zald dX11_mark_18 e130 (ax_ix_nI (j := m) hm (by decide)) ?_
    rw [hg m hm]
    by_cases hs : (μ m).isSome = true
    · rw [if_pos hs]
      refine ax_if_neT 24 dX11_mark_19 (by decide) (by decide) ?_
      exact at24 (Or.inr hs)
    · rw [if_neg hs]
      refine ax_if_neF 24 dX11_mark_19 (by decide) (by decide) ?_
      have hno : ¬ ∃ m', m' < 4 ∧ nI m = nI m' ∧ (b = 0 ∨ (μ m').isSome) := fun ⟨m', hm'', q, hz⟩ => by
        have := hinj m' hm'' q
        subst this
        rcases hz with z | z
        · exact hb z
        · exact hs z
      refine ax_iconst dX11_mark_22 (v := nI 0) (by decide) ?_
      exact ax_zreturn dX11_mark_23 rfl ((Or.inl rfl)) (hq0 hno)
end MA
