/-! ===== the model: a new name, a told name ===== -/
section MNB
variable {G : ax_G} {d : Nat} {h : ax_H} {Q : ax_O → ax_H → Prop}
variable {th ta si pt fa co nm rd ask nw os sw bc bm : Int32} {gg : Int64}
variable {ts : List CT} {So Va : Nat → Nat} {s : Nat × Nat} {D : DD}
theorem nmR_3 {p q : Option Nat} (hp : ∀ j, p = some j → j < 7) (hq : ∀ j, q = some j → j < 5) (hd : p = none ∨ q = none) : (p = none ∧ q = none ∧ nmR p q = -1) ∨ (∃ a, p = some a ∧ q = none ∧ a < 7 ∧ nmR p q = nI a) ∨ (∃ b, q = some b ∧ p = none ∧ b < 5 ∧ nmR p q = nI (7 + b)) := by
  cases p with
  | some a =>
    cases q with
    | some b => rcases hd with q | q <;> cases q
    | none => exact Or.inr (Or.inl ⟨a, rfl, rfl, hp a rfl, rfl⟩)
  | none =>
    cases q with
    | some b => exact Or.inr (Or.inr ⟨b, rfl, rfl, hq b rfl, rfl⟩)
    | none => exact Or.inl ⟨rfl, rfl, rfl⟩
theorem NmI.t3 {f : Nat → Int64} {g : Nat → Int32} {n a : Nat} (hN : NmI ts Va f g n D) (hB : nS D.1 ≤ 5 ∧ nP D.1 ≤ 7) (ha : a < ts.length) (hi : isNm (kA ts a)) : (pOf ts D a = none ∧ sOf ts D a = none ∧ fnM f g n (lN (Va a)) = -1) ∨ (∃ p, pOf ts D a = some p ∧ sOf ts D a = none ∧ p < 7 ∧ fnM f g n (lN (Va a)) = nI p) ∨ (∃ b, sOf ts D a = some b ∧ pOf ts D a = none ∧ b < 5 ∧ fnM f g n (lN (Va a)) = nI (7 + b)) := by
  obtain ⟨e1, e2⟩ := hN.2 a ha hi
  rw [e1]
  refine nmR_3 (fun j z => ?_) (fun j z => ?_) e2
  · have := nmOf_lt z; omega
  · have := nmOf_lt z; omega
theorem isNm_0 {k : Nat} (hk : isNm k) : ¬ k = 0 := by
  rcases hk with q | q | q | q <;> omega
theorem sName_f {N : Nt} {sn pn : Nat → Int64} (h0 : ¬ s.2 = 0) : sName ts N sn pn s = s := by
  unfold sName
  simp only [sFail_y h0, ite_self]
  exact sStep_n h0
theorem sPlace_f {N : Nt} {pn : Nat → Int64} {x : Option Nat} (h0 : ¬ s.2 = 0) : sPlace ts N pn x s = s := by
  unfold sPlace
  simp only [sFail_y h0, ite_self]
  exact sStep_n h0
theorem sStuff_f {N : Nt} {sn : Nat → Int64} (h0 : ¬ s.2 = 0) : sStuff ts N sn s = s := by
  unfold sStuff
  simp only [sFail_y h0, ite_self]
  exact sStep_n h0
theorem sSkip_f {k : Nat} (h0 : ¬ s.2 = 0) : sSkip ts k s = s := by
  unfold sSkip
  simp only [sFail_y h0, ite_self]
  exact sStep_n h0
theorem sNum_f {a b : Nat} (h0 : ¬ s.2 = 0) : sNum ts a b s = s := by
  unfold sNum
  simp only [sFail_y h0, ite_self]
  exact sStep_n h0
/-- the step that the model takes where no fault is -/
def sMv (s : Nat × Nat) : Nat × Nat := if s.2 = 0 then (s.1 + 1, 0) else s
theorem sMv_n (h0 : ¬ s.2 = 0) : sMv s = s := if_neg h0
theorem sMv_y (h0 : s.2 = 0) : sMv s = (s.1 + 1, 0) := if_pos h0
theorem nI_np {n : Nat} (hn : n < 2 ^ 31) (h0 : ¬ n = 0) : ¬ nI n ≤ 0 := fun z => absurd (nI_lt (a := 0) (b := n) (by omega) (by omega)) (Int32.not_lt.mpr z)
theorem nI_m1 {j : Nat} (hj : j < 2 ^ 31) : ¬ nI j = -1 := fun z => absurd (show nI j < 0 from z ▸ (by decide)) (nI_nlt (b := 0) (Nat.zero_le _) (by omega))
theorem nmR_i {x : Option Nat} {a : Nat} (hx : ∀ j, x = some j → j < 7) (ha : a < 7) (h : nmR x none = nI a) : x = some a := by
  cases x with
  | none => exact absurd h.symm (nI_m1 (by omega))
  | some b =>
    have hb := hx b rfl
    rw [(nI_eq (by omega) (by omega)).mp (show nI b = nI a from h)]
theorem k_readName {n what : Nat} {f : Nat → Int64} {g : Nat → Int32} (h0 : s.2 = 0) (hk : ¬ kA ts s.1 = 0) (hn : n < 12) (hN : NmI ts Va f g n D) (hB : nS D.1 ≤ 5 ∧ nP D.1 ≤ 7) (ht : tsOK ts) (hE : tsE ts) (hs : sOKs ts s) (hT : TkQ ts So Va) (e145 : h.2.2 145 = some (eM th ta si (nI s.1) (nI s.2) co (nI n) rd ask nw os sw bc bm gg)) (hP : PsR h ts So Va) (e154 : h.2.2 154 = some (eJ 12 f)) (e155 : h.2.2 155 = some (eI 12 g)) (hq : ∀ h' f' g' n', But h h' (fun j => j = 145 ∨ j = 154 ∨ j = 155) → h'.2.2 145 = some (eM th ta si (nI (sName ts D.1 D.2.2.1 D.2.2.2 (sStep ts s)).1) (nI (sName ts D.1 D.2.2.1 D.2.2.2 (sStep ts s)).2) co (nI n') rd ask nw os sw bc bm gg) → h'.2.2 154 = some (eJ 12 f') → h'.2.2 155 = some (eI 12 g') → ((sName ts D.1 D.2.2.1 D.2.2.2 (sStep ts s)).2 = 0 → n' = n + 1 ∧ f' = vp_updL f n (lN (Va (sStep ts s).1)) ∧ g' = upd g n (nI what)) → Q (.inl none) h') : X G (d + 1) mX12_readName 0 (ax_in 2 [.ref 145, .int (nI what)]) [] h Q := by
  have e1 : sStep ts s = (s.1 + 1, 0) := sStep_y hE hs h0 hk
  have o1 : sOKs ts (s.1 + 1, 0) := by rw [← e1]; exact sStep_ok hs
  rw [e1] at hq
  have ho := o1.1
  have ht1 := ht.1
  dsimp only at ho
  have tail : ∀ (h1 : ax_H) (s' : Nat × Nat), sOKs ts s' → But h h1 (fun j => j = 145) → h1.2.2 145 = some (eM th ta si (nI s'.1) (nI s'.2) co (nI n) rd ask nw os sw bc bm gg) → sName ts D.1 D.2.2.1 D.2.2.2 (s.1 + 1, 0) = sMv s' → (s'.2 = 0 → s'.1 = s.1 + 1 ∧ ¬ So (s.1 + 1) = 0) → X G (d + 1) mX12_readName 37 [some (.ref 145), some (.int (nI what))] [] h1 Q := by
    intro h1 s' o' hb1 e145 es hz
    have o2 := o'.2
    rw [es] at hq
    have e154 := (hb1.2.2 154 (by decide)).trans e154
    have e155 := (hb1.2.2 155 (by decide)).trans e155
    obtain ⟨⟨f1, f2, f3, e147, e148, e149, qq⟩, -⟩ := hP.k1 hb1
    by_cases h0' : s'.2 = 0
    · obtain ⟨z1, z2⟩ := hz h0'
      rw [sMv_y h0'] at hq
      rw [z1] at e145
      refine ax_aload_n dX12_readName_37 rfl ?_
      refine ax_getf dX12_readName_38 flX12_156 e145 rfl ?_
      refine ax_if_neF 92 dX12_readName_41 (by decide) (by rw [h0']; rfl) ?_
      refine ax_aload_n dX12_readName_44 rfl ?_
      refine ax_getf dX12_readName_45 flX12_84 e145 rfl ?_
      refine ax_aload_n dX12_readName_48 rfl ?_
      refine ax_getf dX12_readName_49 flX12_179 e145 rfl ?_
      refine ax_aload_n dX12_readName_52 rfl ?_
      refine ax_getf dX12_readName_53 flX12_30 e145 rfl ?_
      refine ax_aload_n dX12_readName_56 rfl ?_
      refine ax_getf dX12_readName_57 flX12_153 e145 rfl ?_
      refine ax_lald dX12_readName_60 e149 (ax_ix_nI (j := s.1 + 1) (by omega) (by decide)) ?_
      rw [(qq _ ho).2.2 z2]
      refine ax_last dX12_readName_61 e154 (ax_ix_nI (j := n) (by omega) (by decide)) ?_
      refine ax_aload_n dX12_readName_62 rfl ?_
      refine ax_getf dX12_readName_63 flX12_87 ((ax_wr_ne (by decide)).trans (e145)) rfl ?_
      refine ax_aload_n dX12_readName_66 rfl ?_
      refine ax_getf dX12_readName_67 flX12_179 ((ax_wr_ne (by decide)).trans (e145)) rfl ?_
      refine ax_iload_n dX12_readName_70 rfl ?_
      refine ax_iast dX12_readName_71 ((ax_wr_ne (by decide)).trans (e155)) (ax_ix_nI (j := n) (by omega) (by decide)) ?_
      refine ax_aload_n dX12_readName_72 rfl ?_
      refine ax_dup dX12_readName_73 rfl ?_
      refine ax_getf dX12_readName_74 flX12_179 ((ax_wr_ne (by decide)).trans ((ax_wr_ne (by decide)).trans (e145))) rfl ?_
      refine ax_iconst dX12_readName_77 (v := nI 1) (by decide) ?_
      refine ax_iadd dX12_readName_78 ?_
      refine ax_putf dX12_readName_79 flX12_179 ((ax_wr_ne (by decide)).trans ((ax_wr_ne (by decide)).trans (e145))) (Nat.le_of_ble_eq_true rfl) (fun _ => ⟨rfl, rfl⟩) ?_
      refine ax_aload_n dX12_readName_82 rfl ?_
      refine ax_dup dX12_readName_83 rfl ?_
      refine ax_getf dX12_readName_84 flX12_153 ax_wr_eq rfl ?_
      refine ax_iconst dX12_readName_87 (v := nI 1) (by decide) ?_
      refine ax_iadd dX12_readName_88 ?_
      refine ax_putf dX12_readName_89 flX12_153 ax_wr_eq (Nat.le_of_ble_eq_true rfl) (fun _ => ⟨rfl, rfl⟩) ?_
      rw [ax_wr_wr]
      rw [nI_add n 1, nI_add (s.1 + 1) 1, show nI s'.2 = nI 0 from by rw [h0']]
      rw [z1] at hq
      exact ax_return dX12_readName_92 rfl (hq _ _ _ _ ((((hb1.wide (P' := fun j => j = 145 ∨ j = 154 ∨ j = 155) (fun j z => Or.inl z)).wr (Or.inr (Or.inl rfl))).wr (Or.inr (Or.inr rfl))).wr (Or.inl rfl)) ax_wr_eq (by simp only [ax_wr_ne, ax_wr_eq, ne_eq]; rfl) (by simp only [ax_wr_ne, ax_wr_eq, ne_eq]; rfl) (fun _ => ⟨rfl, rfl, rfl⟩))
    · rw [sMv_n h0'] at hq
      refine ax_aload_n dX12_readName_37 rfl ?_
      refine ax_getf dX12_readName_38 flX12_156 e145 rfl ?_
      refine ax_if_neT 92 dX12_readName_41 (by decide) (fun z => h0' ((nI_eq (by omega) (by omega)).mp z)) ?_
      exact ax_return dX12_readName_92 rfl (hq _ _ _ _ (hb1.wide (fun j z => Or.inl z)) e145 e154 e155 (fun z => absurd z h0'))
  have body : ∀ (h1 : ax_H), But h h1 (fun j => j = 145) → h1.2.2 145 = some (eM th ta si (nI (s.1 + 1)) (nI 0) co (nI n) rd ask nw os sw bc bm gg) → X G (d + 1) mX12_readName 10 [some (.ref 145), some (.int (nI what))] [] h1 Q := by
    intro h1 hb1 e145
    have hP := hP.k1 hb1
    have e154 := (hb1.2.2 154 (by decide)).trans e154
    have e155 := (hb1.2.2 155 (by decide)).trans e155
    refine ax_aload_n dX12_readName_10 rfl ?_
    refine ax_cV dX12_readName_11 mmX12_isName lkX12_213 miX12_isName msX12_isName (ax_recv_of e145 rfl) rfl rfl (Nat.le_of_ble_eq_true rfl) (Nat.le_of_ble_eq_true rfl) rfl rfl (k_isName (s := (s.1 + 1, 0)) (d := d) ht o1 hT e145 hP ⟨_, rfl, ?_⟩)
    dsimp only
    by_cases hc : isNm (kA ts (s.1 + 1))
    · have h1' := ((hT _ ho).2.2.2.2.2.2.1.mp hc).1
      rw [b1_t (show (0 = 0 ∧ isNm (kA ts (s.1 + 1))) from ⟨rfl, hc⟩)]
      refine ax_if_neT 25 dX12_readName_14 (by decide) (by decide) ?_
      refine ax_aload_n dX12_readName_25 rfl ?_
      refine ax_cV dX12_readName_26 mmX12_find lkX12_217 miX12_find msX12_find (ax_recv_of e145 rfl) rfl rfl (Nat.le_of_ble_eq_true rfl) (Nat.le_of_ble_eq_true rfl) rfl rfl (k_find (s := (s.1 + 1, 0)) (d := d) (by omega) (by dsimp only; omega) ht o1 e145 hP e154 e155 ⟨_, rfl, ?_⟩)
      rcases hN.t3 hB ho hc with ⟨p, q, e⟩ | ⟨a, p, q, z, e⟩ | ⟨b, q, p, z, e⟩
      · rw [e]
        refine ax_if_ltT 37 dX12_readName_29 (by decide) (by decide) ?_
        refine tail h1 (s.1 + 1, 0) o1 hb1 e145 ?_ (fun _ => ⟨rfl, by omega⟩)
        unfold sName
        dsimp only
        rw [if_pos hc, if_pos ⟨q, p⟩, sStep_y hE o1 rfl (isNm_0 hc)]
        rfl
      · rw [e]
        refine ax_if_ltF 37 dX12_readName_29 (by decide) (nI_nlt (b := 0) (Nat.zero_le _) (by omega)) ?_
        refine ax_aload_n dX12_readName_32 rfl ?_
        refine ax_iconst dX12_readName_33 (v := nI 3) (by decide) ?_
        refine ax_cV dX12_readName_34 mmX12_wrong lkX12_162 miX12_wrong msX12_wrong (ax_recv_of e145 rfl) rfl rfl (Nat.le_of_ble_eq_true rfl) (Nat.le_of_ble_eq_true rfl) rfl rfl (k_wrong (s := (s.1 + 1, 0)) (d := d) (k := 3) (by omega) ht o1 e145 hP (fun h2 hb2 e145 => ⟨_, rfl, ?_⟩))
        refine tail h2 _ (sFail_ok (by omega) ht o1) (hb1.tr hb2) e145 ?_ (fun z => absurd z (sFail_f (by omega)))
        unfold sName
        dsimp only
        rw [if_pos hc, if_neg (fun z => by cases p.symm.trans z.2), sSF (by omega), sMv_n (sFail_f (by omega))]
      · rw [e]
        refine ax_if_ltF 37 dX12_readName_29 (by decide) (nI_nlt (b := 0) (Nat.zero_le _) (by omega)) ?_
        refine ax_aload_n dX12_readName_32 rfl ?_
        refine ax_iconst dX12_readName_33 (v := nI 3) (by decide) ?_
        refine ax_cV dX12_readName_34 mmX12_wrong lkX12_162 miX12_wrong msX12_wrong (ax_recv_of e145 rfl) rfl rfl (Nat.le_of_ble_eq_true rfl) (Nat.le_of_ble_eq_true rfl) rfl rfl (k_wrong (s := (s.1 + 1, 0)) (d := d) (k := 3) (by omega) ht o1 e145 hP (fun h2 hb2 e145 => ⟨_, rfl, ?_⟩))
        refine tail h2 _ (sFail_ok (by omega) ht o1) (hb1.tr hb2) e145 ?_ (fun z => absurd z (sFail_f (by omega)))
        unfold sName
        dsimp only
        rw [if_pos hc, if_neg (fun z => by cases q.symm.trans z.1), sSF (by omega), sMv_n (sFail_f (by omega))]
    · rw [b1_f (show ¬ (0 = 0 ∧ isNm (kA ts (s.1 + 1))) from fun z => hc z.2)]
      refine ax_if_neF 25 dX12_readName_14 (by decide) (by decide) ?_
      refine ax_aload_n dX12_readName_17 rfl ?_
      refine ax_iconst dX12_readName_18 (v := nI 1) (by decide) ?_
      refine ax_cV dX12_readName_19 mmX12_wrong lkX12_162 miX12_wrong msX12_wrong (ax_recv_of e145 rfl) rfl rfl (Nat.le_of_ble_eq_true rfl) (Nat.le_of_ble_eq_true rfl) rfl rfl (k_wrong (s := (s.1 + 1, 0)) (d := d) (k := 1) (by omega) ht o1 e145 hP (fun h2 hb2 e145 => ⟨_, rfl, ?_⟩))
      refine ax_goto 37 dX12_readName_22 (by decide) ?_
      refine tail h2 _ (sFail_ok (by omega) ht o1) (hb1.tr hb2) e145 ?_ (fun z => absurd z (sFail_f (by omega)))
      unfold sName
      dsimp only
      rw [if_neg hc, sSF (by omega), sMv_n (sFail_f (by omega))]
  refine ax_aload_n dX12_readName_0 rfl ?_
  refine ax_dup dX12_readName_1 rfl ?_
  refine ax_getf dX12_readName_2 flX12_153 e145 rfl ?_
  refine ax_iconst dX12_readName_5 (v := nI 1) (by decide) ?_
  refine ax_iadd dX12_readName_6 ?_
  refine ax_putf dX12_readName_7 flX12_153 e145 (Nat.le_of_ble_eq_true rfl) (fun _ => ⟨rfl, rfl⟩) ?_
  rw [nI_add s.1 1, show nI s.2 = nI 0 from by rw [h0]]
  exact body _ (But.rf.wr rfl) ax_wr_eq
theorem k_toldP {n : Nat} {f : Nat → Int64} {g : Nat → Int32} {but : Int32} {x : Option Nat} (hx : s.2 = 0 → but = nmR x none) (hn : n ≤ 12) (hN : NmI ts Va f g n D) (hB : nS D.1 ≤ 5 ∧ nP D.1 ≤ 7) (ht : tsOK ts) (hE : tsE ts) (hs : sOKs ts s) (hT : TkQ ts So Va) (e145 : h.2.2 145 = some (eM th ta si (nI s.1) (nI s.2) co (nI n) rd ask nw os sw bc bm gg)) (hP : PsR h ts So Va) (e154 : h.2.2 154 = some (eJ 12 f)) (e155 : h.2.2 155 = some (eI 12 g)) (hx7 : ∀ j, x = some j → j < 7) (hq : ∀ h' v, But h h' (fun j => j = 145) → h'.2.2 145 = some (eM th ta si (nI (sPlace ts D.1 D.2.2.2 x s).1) (nI (sPlace ts D.1 D.2.2.2 x s).2) co (nI n) rd ask nw os sw bc bm gg) → ((sPlace ts D.1 D.2.2.2 x s).2 = 0 → v = nI ((pOf ts D s.1).getD 0) ∧ v = nmR (pOf ts D s.1) none) → Q (.inl (some (.int v))) h') : X G (d + 1) mX12_takeTold 0 (ax_in 4 [.ref 145, .int (nI 0), .int but]) [] h Q := by
  have hs1 := hs.1
  have ht1 := ht.1
  have hs2 := hs.2
  have tail : ∀ (h1 : ax_H) (s' : Nat × Nat) (v : Int32), sOKs ts s' → But h h1 (fun j => j = 145) → h1.2.2 145 = some (eM th ta si (nI s'.1) (nI s'.2) co (nI n) rd ask nw os sw bc bm gg) → sPlace ts D.1 D.2.2.2 x s = sMv s' → (s'.2 = 0 → v = nI ((pOf ts D s.1).getD 0) ∧ v = nmR (pOf ts D s.1) none) → X G (d + 1) mX12_takeTold 63 [some (.ref 145), some (.int (nI 0)), some (.int but), some (.int v)] [] h1 Q := by
    intro h1 s' v o' hb1 e145 es hz
    have o2 := o'.2
    have o3 := o'.1
    rw [es] at hq
    by_cases h0' : s'.2 = 0
    · rw [sMv_y h0'] at hq
      refine ax_aload_n dX12_takeTold_63 rfl ?_
      refine ax_dup dX12_takeTold_64 rfl ?_
      refine ax_getf dX12_takeTold_65 flX12_153 e145 rfl ?_
      refine ax_aload_n dX12_takeTold_68 rfl ?_
      refine ax_getf dX12_takeTold_69 flX12_156 e145 rfl ?_
      refine ax_if_leT 79 dX12_takeTold_72 (by decide) (by rw [h0']; decide) ?_
      refine ax_iconst dX12_takeTold_79 (v := nI 1) (by decide) ?_
      refine ax_iadd dX12_takeTold_80 ?_
      refine ax_putf dX12_takeTold_81 flX12_153 e145 (Nat.le_of_ble_eq_true rfl) (fun _ => ⟨rfl, rfl⟩) ?_
      rw [nI_add s'.1 1, show nI s'.2 = nI 0 from by rw [h0']]
      refine ax_iload_n dX12_takeTold_84 rfl ?_
      refine ax_if_eqT 95 dX12_takeTold_85 (by decide) rfl ?_
      refine ax_iload_n dX12_takeTold_95 rfl ?_
      exact ax_ireturn dX12_takeTold_96 rfl (hq _ _ (hb1.wr rfl) ax_wr_eq (fun _ => hz h0'))
    · rw [sMv_n h0'] at hq
      refine ax_aload_n dX12_takeTold_63 rfl ?_
      refine ax_dup dX12_takeTold_64 rfl ?_
      refine ax_getf dX12_takeTold_65 flX12_153 e145 rfl ?_
      refine ax_aload_n dX12_takeTold_68 rfl ?_
      refine ax_getf dX12_takeTold_69 flX12_156 e145 rfl ?_
      refine ax_if_leF 79 dX12_takeTold_72 (by decide) (nI_np (by omega) h0') ?_
      refine ax_iconst dX12_takeTold_75 (v := nI 0) (by decide) ?_
      refine ax_goto 80 dX12_takeTold_76 (by decide) ?_
      refine ax_iadd dX12_takeTold_80 ?_
      refine ax_putf dX12_takeTold_81 flX12_153 e145 (Nat.le_of_ble_eq_true rfl) (fun _ => ⟨rfl, rfl⟩) ?_
      rw [nI_add s'.1 0, Nat.add_zero]
      refine ax_iload_n dX12_takeTold_84 rfl ?_
      refine ax_if_eqT 95 dX12_takeTold_85 (by decide) rfl ?_
      refine ax_iload_n dX12_takeTold_95 rfl ?_
      exact ax_ireturn dX12_takeTold_96 rfl (hq _ _ (hb1.wr rfl) ax_wr_eq (fun z => absurd z h0'))
  refine ax_iconst dX12_takeTold_0 (v := -1) (by decide) ?_
  refine ax_istore_n dX12_takeTold_1 (Nat.le_of_ble_eq_true rfl) ?_
  refine ax_aload_n dX12_takeTold_2 rfl ?_
  refine ax_cV dX12_takeTold_3 mmX12_isName lkX12_213 miX12_isName msX12_isName (ax_recv_of e145 rfl) rfl rfl (Nat.le_of_ble_eq_true rfl) (Nat.le_of_ble_eq_true rfl) rfl rfl (k_isName (d := d) ht hs hT e145 hP ⟨_, rfl, ?_⟩)
  by_cases hc : s.2 = 0 ∧ isNm (kA ts s.1)
  · have h1' := ((hT _ hs1).2.2.2.2.2.2.1.mp hc.2).1
    rw [b1_t hc]
    refine ax_if_neT 14 dX12_takeTold_6 (by decide) (by decide) ?_
    refine ax_aload_n dX12_takeTold_14 rfl ?_
    refine ax_getf dX12_takeTold_15 flX12_156 e145 rfl ?_
    refine ax_if_neF 63 dX12_takeTold_18 (by decide) (by rw [hc.1]; rfl) ?_
    refine ax_aload_n dX12_takeTold_21 rfl ?_
    refine ax_cV dX12_takeTold_22 mmX12_find lkX12_217 miX12_find msX12_find (ax_recv_of e145 rfl) rfl rfl (Nat.le_of_ble_eq_true rfl) (Nat.le_of_ble_eq_true rfl) rfl rfl (k_find (d := d) hn (by omega) ht hs e145 hP e154 e155 ⟨_, rfl, ?_⟩)
    rcases hN.t3 hB hs1 hc.2 with ⟨p, q, e⟩ | ⟨a, p, q, z, e⟩ | ⟨b, q, p, z, e⟩
    · rw [e]
      refine ax_istore_n dX12_takeTold_25 (Nat.le_of_ble_eq_true rfl) ?_
      refine ax_iload_n dX12_takeTold_26 rfl ?_
      refine ax_if_ltT 45 dX12_takeTold_27 (by decide) (by decide) ?_
      refine ax_aload_n dX12_takeTold_45 rfl ?_
      refine ax_iconst dX12_takeTold_46 (v := nI 2) (by decide) ?_
      refine ax_cV dX12_takeTold_47 mmX12_wrong lkX12_162 miX12_wrong msX12_wrong (ax_recv_of e145 rfl) rfl rfl (Nat.le_of_ble_eq_true rfl) (Nat.le_of_ble_eq_true rfl) rfl rfl (k_wrong (d := d) (k := 2) (by omega) ht hs e145 hP (fun h2 hb2 e145 => ⟨_, rfl, ?_⟩))
      refine ax_goto 63 dX12_takeTold_50 (by decide) ?_
      refine tail h2 _ _ (sFail_ok (by omega) ht hs) hb2 e145 ?_ (fun z => absurd z (sFail_f (by omega)))
      unfold sPlace
      rw [if_pos hc.2, if_pos p, sSF (by omega), sMv_n (sFail_f (by omega))]
    · rw [e]
      refine ax_istore_n dX12_takeTold_25 (Nat.le_of_ble_eq_true rfl) ?_
      refine ax_iload_n dX12_takeTold_26 rfl ?_
      refine ax_if_ltF 45 dX12_takeTold_27 (by decide) (nI_nlt (b := 0) (Nat.zero_le _) (by omega)) ?_
      refine ax_iload_n dX12_takeTold_30 rfl ?_
      refine ax_bipush dX12_takeTold_31 (v := nI 7) (by decide) ?_
      refine ax_icmp_ltT 40 dX12_takeTold_33 (by decide) (nI_lt (by omega) (by omega)) ?_
      refine ax_iconst dX12_takeTold_40 (v := nI 0) (by decide) ?_
      refine ax_iload_n dX12_takeTold_41 rfl ?_
      refine ax_icmp_eqT 53 dX12_takeTold_42 (by decide) rfl ?_
      by_cases hb : x = some a
      · refine ax_iload_n dX12_takeTold_53 rfl ?_
        refine ax_iload_n dX12_takeTold_54 rfl ?_
        refine ax_icmp_neF 63 dX12_takeTold_55 (by decide) (by rw [hx hc.1, hb]; rfl) ?_
        refine ax_aload_n dX12_takeTold_58 rfl ?_
        refine ax_iconst dX12_takeTold_59 (v := nI 3) (by decide) ?_
        refine ax_cV dX12_takeTold_60 mmX12_wrong lkX12_162 miX12_wrong msX12_wrong (ax_recv_of e145 rfl) rfl rfl (Nat.le_of_ble_eq_true rfl) (Nat.le_of_ble_eq_true rfl) rfl rfl (k_wrong (d := d) (k := 3) (by omega) ht hs e145 hP (fun h2 hb2 e145 => ⟨_, rfl, ?_⟩))
        refine tail h2 _ _ (sFail_ok (by omega) ht hs) hb2 e145 ?_ (fun z => absurd z (sFail_f (by omega)))
        unfold sPlace
        rw [if_pos hc.2, if_neg (fun z => by cases p.symm.trans z), if_pos (p.trans hb.symm), sSF (by omega), sMv_n (sFail_f (by omega))]
      · refine ax_iload_n dX12_takeTold_53 rfl ?_
        refine ax_iload_n dX12_takeTold_54 rfl ?_
        refine ax_icmp_neT 63 dX12_takeTold_55 (by decide) (fun z => hb (nmR_i hx7 (by omega) ((hx hc.1).symm.trans z.symm))) ?_
        refine tail h s _ hs But.rf e145 ?_ (fun _ => ⟨by rw [p]; rfl, by rw [p]; rfl⟩)
        unfold sPlace
        rw [if_pos hc.2, if_neg (fun z => by cases p.symm.trans z), if_neg (fun z => hb (z.symm.trans p)), sStep_y hE hs hc.1 (isNm_0 hc.2), sMv_y hc.1]
    · rw [e]
      refine ax_istore_n dX12_takeTold_25 (Nat.le_of_ble_eq_true rfl) ?_
      refine ax_iload_n dX12_takeTold_26 rfl ?_
      refine ax_if_ltF 45 dX12_takeTold_27 (by decide) (nI_nlt (b := 0) (Nat.zero_le _) (by omega)) ?_
      refine ax_iload_n dX12_takeTold_30 rfl ?_
      refine ax_bipush dX12_takeTold_31 (v := nI 7) (by decide) ?_
      refine ax_icmp_ltF 40 dX12_takeTold_33 (by decide) (nI_nlt (by omega) (by omega)) ?_
      refine ax_iconst dX12_takeTold_36 (v := nI 1) (by decide) ?_
      refine ax_goto 41 dX12_takeTold_37 (by decide) ?_
      refine ax_iload_n dX12_takeTold_41 rfl ?_
      refine ax_icmp_eqF 53 dX12_takeTold_42 (by decide) (by decide) ?_
      refine ax_aload_n dX12_takeTold_45 rfl ?_
      refine ax_iconst dX12_takeTold_46 (v := nI 2) (by decide) ?_
      refine ax_cV dX12_takeTold_47 mmX12_wrong lkX12_162 miX12_wrong msX12_wrong (ax_recv_of e145 rfl) rfl rfl (Nat.le_of_ble_eq_true rfl) (Nat.le_of_ble_eq_true rfl) rfl rfl (k_wrong (d := d) (k := 2) (by omega) ht hs e145 hP (fun h2 hb2 e145 => ⟨_, rfl, ?_⟩))
      refine ax_goto 63 dX12_takeTold_50 (by decide) ?_
      refine tail h2 _ _ (sFail_ok (by omega) ht hs) hb2 e145 ?_ (fun z => absurd z (sFail_f (by omega)))
      unfold sPlace
      rw [if_pos hc.2, if_pos p, sSF (by omega), sMv_n (sFail_f (by omega))]
  · rw [b1_f hc]
    refine ax_if_neF 14 dX12_takeTold_6 (by decide) (by decide) ?_
    refine ax_aload_n dX12_takeTold_9 rfl ?_
    refine ax_iconst dX12_takeTold_10 (v := nI 1) (by decide) ?_
    refine ax_cV dX12_takeTold_11 mmX12_wrong lkX12_162 miX12_wrong msX12_wrong (ax_recv_of e145 rfl) rfl rfl (Nat.le_of_ble_eq_true rfl) (Nat.le_of_ble_eq_true rfl) rfl rfl (k_wrong (d := d) (k := 1) (by omega) ht hs e145 hP (fun h2 hb2 e145 => ⟨_, rfl, ?_⟩))
    have o2 := (sFail_ok (k := 1) (by omega) ht hs).2
    refine ax_aload_n dX12_takeTold_14 rfl ?_
    refine ax_getf dX12_takeTold_15 flX12_156 e145 rfl ?_
    refine ax_if_neT 63 dX12_takeTold_18 (by decide) (fun z => sFail_f (by omega) ((nI_eq (by omega) (by omega)).mp z)) ?_
    refine tail h2 _ _ (sFail_ok (by omega) ht hs) hb2 e145 ?_ (fun z => absurd z (sFail_f (by omega)))
    rw [sMv_n (sFail_f (by omega))]
    by_cases h0 : s.2 = 0
    · unfold sPlace
      rw [if_neg (fun z => hc ⟨h0, z⟩), sSF (by omega)]
    · rw [sPlace_f h0, sFail_y h0]
theorem k_toldS {n : Nat} {f : Nat → Int64} {g : Nat → Int32} (hn : n ≤ 12) (hN : NmI ts Va f g n D) (hB : nS D.1 ≤ 5 ∧ nP D.1 ≤ 7) (ht : tsOK ts) (hE : tsE ts) (hs : sOKs ts s) (hT : TkQ ts So Va) (e145 : h.2.2 145 = some (eM th ta si (nI s.1) (nI s.2) co (nI n) rd ask nw os sw bc bm gg)) (hP : PsR h ts So Va) (e154 : h.2.2 154 = some (eJ 12 f)) (e155 : h.2.2 155 = some (eI 12 g)) (hq : ∀ h' v, But h h' (fun j => j = 145) → h'.2.2 145 = some (eM th ta si (nI (sStuff ts D.1 D.2.2.1 s).1) (nI (sStuff ts D.1 D.2.2.1 s).2) co (nI n) rd ask nw os sw bc bm gg) → ((sStuff ts D.1 D.2.2.1 s).2 = 0 → v = nI ((sOf ts D s.1).getD 0)) → Q (.inl (some (.int v))) h') : X G (d + 1) mX12_takeTold 0 (ax_in 4 [.ref 145, .int (nI 1), .int (-1)]) [] h Q := by
  have hs1 := hs.1
  have ht1 := ht.1
  have hs2 := hs.2
  have tail : ∀ (h1 : ax_H) (s' : Nat × Nat) (v : Int32), sOKs ts s' → But h h1 (fun j => j = 145) → h1.2.2 145 = some (eM th ta si (nI s'.1) (nI s'.2) co (nI n) rd ask nw os sw bc bm gg) → sStuff ts D.1 D.2.2.1 s = sMv s' → (s'.2 = 0 → v - nI 7 = nI ((sOf ts D s.1).getD 0)) → X G (d + 1) mX12_takeTold 63 [some (.ref 145), some (.int (nI 1)), some (.int (-1)), some (.int v)] [] h1 Q := by
    intro h1 s' v o' hb1 e145 es hz
    have o2 := o'.2
    have o3 := o'.1
    rw [es] at hq
    by_cases h0' : s'.2 = 0
    · rw [sMv_y h0'] at hq
      refine ax_aload_n dX12_takeTold_63 rfl ?_
      refine ax_dup dX12_takeTold_64 rfl ?_
      refine ax_getf dX12_takeTold_65 flX12_153 e145 rfl ?_
      refine ax_aload_n dX12_takeTold_68 rfl ?_
      refine ax_getf dX12_takeTold_69 flX12_156 e145 rfl ?_
      refine ax_if_leT 79 dX12_takeTold_72 (by decide) (by rw [h0']; decide) ?_
      refine ax_iconst dX12_takeTold_79 (v := nI 1) (by decide) ?_
      refine ax_iadd dX12_takeTold_80 ?_
      refine ax_putf dX12_takeTold_81 flX12_153 e145 (Nat.le_of_ble_eq_true rfl) (fun _ => ⟨rfl, rfl⟩) ?_
      rw [nI_add s'.1 1, show nI s'.2 = nI 0 from by rw [h0']]
      refine ax_iload_n dX12_takeTold_84 rfl ?_
      refine ax_if_eqF 95 dX12_takeTold_85 (by decide) (by decide) ?_
      refine ax_iload_n dX12_takeTold_88 rfl ?_
      refine ax_bipush dX12_takeTold_89 (v := nI 7) (by decide) ?_
      refine ax_isub dX12_takeTold_91 ?_
      refine ax_goto 96 dX12_takeTold_92 (by decide) ?_
      exact ax_ireturn dX12_takeTold_96 rfl (hq _ _ (hb1.wr rfl) ax_wr_eq (fun _ => hz h0'))
    · rw [sMv_n h0'] at hq
      refine ax_aload_n dX12_takeTold_63 rfl ?_
      refine ax_dup dX12_takeTold_64 rfl ?_
      refine ax_getf dX12_takeTold_65 flX12_153 e145 rfl ?_
      refine ax_aload_n dX12_takeTold_68 rfl ?_
      refine ax_getf dX12_takeTold_69 flX12_156 e145 rfl ?_
      refine ax_if_leF 79 dX12_takeTold_72 (by decide) (nI_np (by omega) h0') ?_
      refine ax_iconst dX12_takeTold_75 (v := nI 0) (by decide) ?_
      refine ax_goto 80 dX12_takeTold_76 (by decide) ?_
      refine ax_iadd dX12_takeTold_80 ?_
      refine ax_putf dX12_takeTold_81 flX12_153 e145 (Nat.le_of_ble_eq_true rfl) (fun _ => ⟨rfl, rfl⟩) ?_
      rw [nI_add s'.1 0, Nat.add_zero]
      refine ax_iload_n dX12_takeTold_84 rfl ?_
      refine ax_if_eqF 95 dX12_takeTold_85 (by decide) (by decide) ?_
      refine ax_iload_n dX12_takeTold_88 rfl ?_
      refine ax_bipush dX12_takeTold_89 (v := nI 7) (by decide) ?_
      refine ax_isub dX12_takeTold_91 ?_
      refine ax_goto 96 dX12_takeTold_92 (by decide) ?_
      exact ax_ireturn dX12_takeTold_96 rfl (hq _ _ (hb1.wr rfl) ax_wr_eq (fun z => absurd z h0'))
  refine ax_iconst dX12_takeTold_0 (v := -1) (by decide) ?_
  refine ax_istore_n dX12_takeTold_1 (Nat.le_of_ble_eq_true rfl) ?_
  refine ax_aload_n dX12_takeTold_2 rfl ?_
  refine ax_cV dX12_takeTold_3 mmX12_isName lkX12_213 miX12_isName msX12_isName (ax_recv_of e145 rfl) rfl rfl (Nat.le_of_ble_eq_true rfl) (Nat.le_of_ble_eq_true rfl) rfl rfl (k_isName (d := d) ht hs hT e145 hP ⟨_, rfl, ?_⟩)
  by_cases hc : s.2 = 0 ∧ isNm (kA ts s.1)
  · have h1' := ((hT _ hs1).2.2.2.2.2.2.1.mp hc.2).1
    rw [b1_t hc]
    refine ax_if_neT 14 dX12_takeTold_6 (by decide) (by decide) ?_
    refine ax_aload_n dX12_takeTold_14 rfl ?_
    refine ax_getf dX12_takeTold_15 flX12_156 e145 rfl ?_
    refine ax_if_neF 63 dX12_takeTold_18 (by decide) (by rw [hc.1]; rfl) ?_
    refine ax_aload_n dX12_takeTold_21 rfl ?_
    refine ax_cV dX12_takeTold_22 mmX12_find lkX12_217 miX12_find msX12_find (ax_recv_of e145 rfl) rfl rfl (Nat.le_of_ble_eq_true rfl) (Nat.le_of_ble_eq_true rfl) rfl rfl (k_find (d := d) hn (by omega) ht hs e145 hP e154 e155 ⟨_, rfl, ?_⟩)
    rcases hN.t3 hB hs1 hc.2 with ⟨p, q, e⟩ | ⟨a, p, q, z, e⟩ | ⟨b, q, p, z, e⟩
    · rw [e]
      refine ax_istore_n dX12_takeTold_25 (Nat.le_of_ble_eq_true rfl) ?_
      refine ax_iload_n dX12_takeTold_26 rfl ?_
      refine ax_if_ltT 45 dX12_takeTold_27 (by decide) (by decide) ?_
      refine ax_aload_n dX12_takeTold_45 rfl ?_
      refine ax_iconst dX12_takeTold_46 (v := nI 2) (by decide) ?_
      refine ax_cV dX12_takeTold_47 mmX12_wrong lkX12_162 miX12_wrong msX12_wrong (ax_recv_of e145 rfl) rfl rfl (Nat.le_of_ble_eq_true rfl) (Nat.le_of_ble_eq_true rfl) rfl rfl (k_wrong (d := d) (k := 2) (by omega) ht hs e145 hP (fun h2 hb2 e145 => ⟨_, rfl, ?_⟩))
      refine ax_goto 63 dX12_takeTold_50 (by decide) ?_
      refine tail h2 _ _ (sFail_ok (by omega) ht hs) hb2 e145 ?_ (fun z => absurd z (sFail_f (by omega)))
      unfold sStuff
      rw [if_pos hc.2, if_pos q, sSF (by omega), sMv_n (sFail_f (by omega))]
    · rw [e]
      refine ax_istore_n dX12_takeTold_25 (Nat.le_of_ble_eq_true rfl) ?_
      refine ax_iload_n dX12_takeTold_26 rfl ?_
      refine ax_if_ltF 45 dX12_takeTold_27 (by decide) (nI_nlt (b := 0) (Nat.zero_le _) (by omega)) ?_
      refine ax_iload_n dX12_takeTold_30 rfl ?_
      refine ax_bipush dX12_takeTold_31 (v := nI 7) (by decide) ?_
      refine ax_icmp_ltT 40 dX12_takeTold_33 (by decide) (nI_lt (by omega) (by omega)) ?_
      refine ax_iconst dX12_takeTold_40 (v := nI 0) (by decide) ?_
      refine ax_iload_n dX12_takeTold_41 rfl ?_
      refine ax_icmp_eqF 53 dX12_takeTold_42 (by decide) (by decide) ?_
      refine ax_aload_n dX12_takeTold_45 rfl ?_
      refine ax_iconst dX12_takeTold_46 (v := nI 2) (by decide) ?_
      refine ax_cV dX12_takeTold_47 mmX12_wrong lkX12_162 miX12_wrong msX12_wrong (ax_recv_of e145 rfl) rfl rfl (Nat.le_of_ble_eq_true rfl) (Nat.le_of_ble_eq_true rfl) rfl rfl (k_wrong (d := d) (k := 2) (by omega) ht hs e145 hP (fun h2 hb2 e145 => ⟨_, rfl, ?_⟩))
      refine ax_goto 63 dX12_takeTold_50 (by decide) ?_
      refine tail h2 _ _ (sFail_ok (by omega) ht hs) hb2 e145 ?_ (fun z => absurd z (sFail_f (by omega)))
      unfold sStuff
      rw [if_pos hc.2, if_pos q, sSF (by omega), sMv_n (sFail_f (by omega))]
    · rw [e]
      refine ax_istore_n dX12_takeTold_25 (Nat.le_of_ble_eq_true rfl) ?_
      refine ax_iload_n dX12_takeTold_26 rfl ?_
      refine ax_if_ltF 45 dX12_takeTold_27 (by decide) (nI_nlt (b := 0) (Nat.zero_le _) (by omega)) ?_
      refine ax_iload_n dX12_takeTold_30 rfl ?_
      refine ax_bipush dX12_takeTold_31 (v := nI 7) (by decide) ?_
      refine ax_icmp_ltF 40 dX12_takeTold_33 (by decide) (nI_nlt (by omega) (by omega)) ?_
      refine ax_iconst dX12_takeTold_36 (v := nI 1) (by decide) ?_
      refine ax_goto 41 dX12_takeTold_37 (by decide) ?_
      refine ax_iload_n dX12_takeTold_41 rfl ?_
      refine ax_icmp_eqT 53 dX12_takeTold_42 (by decide) rfl ?_
      refine ax_iload_n dX12_takeTold_53 rfl ?_
      refine ax_iload_n dX12_takeTold_54 rfl ?_
      refine ax_icmp_neT 63 dX12_takeTold_55 (by decide) (fun z => nI_m1 (by omega) z) ?_
      refine tail h s _ hs But.rf e145 ?_ (fun _ => ?_)
      · unfold sStuff
        rw [if_pos hc.2, if_neg (fun z => by cases q.symm.trans z), sStep_y hE hs hc.1 (isNm_0 hc.2), sMv_y hc.1]
      · rw [q, pk_sub (by omega), Nat.add_sub_cancel_left]; rfl
  · rw [b1_f hc]
    refine ax_if_neF 14 dX12_takeTold_6 (by decide) (by decide) ?_
    refine ax_aload_n dX12_takeTold_9 rfl ?_
    refine ax_iconst dX12_takeTold_10 (v := nI 1) (by decide) ?_
    refine ax_cV dX12_takeTold_11 mmX12_wrong lkX12_162 miX12_wrong msX12_wrong (ax_recv_of e145 rfl) rfl rfl (Nat.le_of_ble_eq_true rfl) (Nat.le_of_ble_eq_true rfl) rfl rfl (k_wrong (d := d) (k := 1) (by omega) ht hs e145 hP (fun h2 hb2 e145 => ⟨_, rfl, ?_⟩))
    have o2 := (sFail_ok (k := 1) (by omega) ht hs).2
    refine ax_aload_n dX12_takeTold_14 rfl ?_
    refine ax_getf dX12_takeTold_15 flX12_156 e145 rfl ?_
    refine ax_if_neT 63 dX12_takeTold_18 (by decide) (fun z => sFail_f (by omega) ((nI_eq (by omega) (by omega)).mp z)) ?_
    refine tail h2 _ _ (sFail_ok (by omega) ht hs) hb2 e145 ?_ (fun z => absurd z (sFail_f (by omega)))
    rw [sMv_n (sFail_f (by omega))]
    by_cases h0 : s.2 = 0
    · unfold sStuff
      rw [if_neg (fun z => hc ⟨h0, z⟩), sSF (by omega)]
    · rw [sStuff_f h0, sFail_y h0]
end MNB
