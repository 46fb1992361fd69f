section FN2
variable {G : ax_G} {d : Nat} {h : ax_H} {Q : ax_O → ax_H → Prop} {N : Nt} {σ : Sd}
def B0 (t : Nat) : Nat → Nat := fun j => if j = t then 0 else 536870912
def bfN (N : Nt) (p : Nat → Nat) (t : Nat) : Nat → (Nat → Nat) × Bool
  | 0 => (B0 t, true)
  | i + 1 => if (bfN N p t i).2 then imN N p (nR N) (bfN N p t i).1 else bfN N p t i
theorem bfN_stop {p : Nat → Nat} {t i : Nat} (hs : (bfN N p t i).2 = false) : ∀ m, bfN N p t (i + m) = bfN N p t i
  | 0 => rfl
  | m + 1 => by
    show (if (bfN N p t (i + m)).2 then _ else bfN N p t (i + m)) = _
    rw [bfN_stop hs m, hs]
    rfl
def wkN (N : Nt) (p B : Nat → Nat) (t : Nat) : Nat → Option Nat → List Nat × Option Nat
  | 0, a => ([], a)
  | _ + 1, none => ([], none)
  | n + 1, some a => if a = t then ([], some a) else match fst (frs N p B a) 0 (nR N) with
    | none => ([], none)
    | some r => (r :: (wkN N p B t n (oth N r a)).1, (wkN N p B t n (oth N r a)).2)
/-- the way that the finder finds: its roads, and whether it comes there -/
def wy (N : Nt) (p : Nat → Nat) (f t : Nat) : List Nat × Option Nat := wkN N p (bfN N p t 7).1 t 7 (if (bfN N p t 7).1 f < 536870912 then some f else none)
theorem fst_lt {P : Nat → Bool} {r : Nat} : ∀ {m i : Nat}, fst P i m = some r → i ≤ r ∧ r < i + m ∧ P r = true
  | 0, i, hh => by cases hh
  | m + 1, i, hh => by
    unfold fst at hh
    by_cases hp : P i = true
    · rw [if_pos hp] at hh; cases hh; exact ⟨Nat.le_refl _, by omega, hp⟩
    · rw [if_neg hp] at hh
      obtain ⟨a, b, c⟩ := fst_lt hh
      exact ⟨by omega, by omega, c⟩
theorem getD_al {l r : List Nat} {j : Nat} (hj : j < l.length) : (l ++ r).getD j 0 = l.getD j 0 := by
  rw [List.getD_eq_getElem?_getD, List.getD_eq_getElem?_getD, List.getElem?_append_left hj]
theorem getD_ar {l r : List Nat} {j : Nat} (hj : l.length ≤ j) : (l ++ r).getD j 0 = r.getD (j - l.length) 0 := by
  rw [List.getD_eq_getElem?_getD, List.getD_eq_getElem?_getD, List.getElem?_append_right hj]
theorem bfN_le {p : Nat → Nat} {t : Nat} (hf : ∀ B : Nat → Nat, (∀ j, B j ≤ 536870912) → ∀ j, (imN N p (nR N) B).1 j ≤ 536870912) : ∀ i j, (bfN N p t i).1 j ≤ 536870912
  | 0, j => by
    show B0 t j ≤ _
    unfold B0
    by_cases h1 : j = t
    · rw [if_pos h1]; omega
    · rw [if_neg h1]; omega
  | i + 1, j => by
    show (if (bfN N p t i).2 then imN N p (nR N) (bfN N p t i).1 else bfN N p t i).1 j ≤ _
    by_cases h1 : (bfN N p t i).2 = true
    · rw [if_pos h1]; exact hf _ (bfN_le hf i) j
    · rw [if_neg h1]; exact bfN_le hf i j
theorem imN_le {p : Nat → Nat} : ∀ (i : Nat) (B : Nat → Nat), (∀ j, B j ≤ 536870912) → ∀ j, (imN N p i B).1 j ≤ 536870912
  | 0, B, hB, j => hB j
  | i + 1, B, hB, j => by
    have ih := imN_le (p := p) i B hB
    show (im1 N p i (imN N p i B).1 (imN N p i B).2).1 j ≤ _
    generalize imN N p i B = Bb at ih ⊢
    have a := ih (N.1 3 i)
    have b := ih (N.1 4 i)
    unfold im1
    split
    · simp only [upN]; split
      · omega
      · exact ih j
    · split
      · simp only [upN]; split
        · omega
        · exact ih j
      · exact ih j
theorem c_find {p : Nat → Nat} {f t : Nat} (hf7 : f < 7) (ht7 : t < 7) (hN : nOK N) (hL : Land h N) (hp : ∀ r, p r ≤ 536870912) (hP : isA h 140 10 (nR N) p) (hW : WfIs h)
    (hq : ∀ h', Same h h' 138 141 → h'.2.2 140 = h.2.2 140 → WfIs h' → ((wy N p f t).2 = some t → h'.2.2 138 = some (eWf (nI (wy N p f t).1.length) (nI ((bfN N p t 7).1 f / 16))) ∧ isA h' 139 7 (wy N p f t).1.length (fun j => (wy N p f t).1.getD j 0) ∧ (wy N p f t).1.length ≤ 7) → Q (.inl (some (.int (b1 ((wy N p f t).2 = some t))))) h') : X G (d + 2) mX9_find 0 (ax_in 6 [.ref 138, .int (nI f), .int (nI t)]) [] h Q := by
  obtain ⟨⟨mm, pp, e138⟩, ⟨f139, e139⟩, ⟨f140, e140⟩, ⟨f141, e141⟩⟩ := id hW
  have hLk : ∀ h1, Same h h1 138 141 → Land h1 N := fun h1 hs => hL.kept (fun k a b => hs.2.2 k (by omega))
  -- the walk
  have walk : ∀ (B : Nat → Nat) (pr : Nat) (g : Nat → Int32), (∀ j, j < 7 → g j = nI (B j)) → (∀ j, B j ≤ 536870912) → ∀ (n m : Nat) (a : Option Nat) (pre : List Nat) (fr : Nat → Int32) (h1 : ax_H) (o3 o5 : Option Value), n + m = 7 → pre.length = m → (∀ j, j < m → fr j = nI (pre.getD j 0)) → (∀ k, a = some k → k < 7) → Same h h1 138 141 → h1.2.2 140 = h.2.2 140 → h1.2.2 138 = some (eWf (nI m) (nI pr)) → h1.2.2 139 = some (eI 7 fr) → h1.2.2 141 = some (eI 7 g) →
      (∀ h', Same h h' 138 141 → h'.2.2 140 = h.2.2 140 → WfIs h' → ((wkN N p B t n a).2 = some t → h'.2.2 138 = some (eWf (nI (m + (wkN N p B t n a).1.length)) (nI pr)) ∧ isA h' 139 7 (m + (wkN N p B t n a).1.length) (fun j => (pre ++ (wkN N p B t n a).1).getD j 0) ∧ m + (wkN N p B t n a).1.length ≤ 7) → Q (.inl (some (.int (b1 ((wkN N p B t n a).2 = some t))))) h') →
      X G (d + 2) mX9_find 79 [some (.ref 138), some (.int (nI f)), some (.int (nI t)), o3, some (.int (on a)), o5] [] h1 Q := by
    intro B pr g hg hB n
    -- the end: at is known
    have fin : ∀ (m : Nat) (a : Option Nat) (fr : Nat → Int32) (h1 : ax_H) (o3 o5 : Option Value), (∀ k, a = some k → k < 7) → Q (.inl (some (.int (b1 (a = some t))))) h1 → X G (d + 2) mX9_find 155 [some (.ref 138), some (.int (nI f)), some (.int (nI t)), o3, some (.int (on a)), o5] [] h1 Q := by
      intro m a fr h1 o3 o5 ha hq
      cases a with
      | none =>
        rw [b1_f (fun q => by cases q)] at hq
        refine ax_iload dX9_find_155 rfl ?_
        refine ax_iload_n dX9_find_157 rfl ?_
        refine ax_icmp_neT 165 dX9_find_158 (by decide) (fun q => absurd (show nI t < 0 by rw [← (show (-1 : Int32) = nI t from q)]; decide) (nI_pos (by omega))) ?_
        refine ax_iconst dX9_find_165 (v := nI 0) (by decide) ?_
        exact ax_zreturn dX9_find_166 rfl (Or.inl rfl) hq
      | some k =>
        have := ha k rfl
        by_cases hk : k = t
        · rw [b1_t (by rw [hk])] at hq
          refine ax_iload dX9_find_155 rfl ?_
          refine ax_iload_n dX9_find_157 rfl ?_
          refine ax_icmp_neF 165 dX9_find_158 (by decide) (by rw [hk]; rfl) ?_
          refine ax_iconst dX9_find_161 (v := nI 1) (by decide) ?_
          refine ax_goto 166 dX9_find_162 (by decide) ?_
          exact ax_zreturn dX9_find_166 rfl (Or.inr rfl) hq
        · rw [b1_f (fun q => hk (Option.some.inj q))] at hq
          refine ax_iload dX9_find_155 rfl ?_
          refine ax_iload_n dX9_find_157 rfl ?_
          refine ax_icmp_neT 165 dX9_find_158 (by decide) (fun q => hk ((nI_eq (by omega) (by omega)).mp q)) ?_
          refine ax_iconst dX9_find_165 (v := nI 0) (by decide) ?_
          exact ax_zreturn dX9_find_166 rfl (Or.inl rfl) hq
    induction n with
    | zero =>
      intro m a pre fr h1 o3 o5 hnm hpl hfr ha hs h40 e1 e2 e3 hq
      have hend : Q (.inl (some (.int (b1 (a = some t))))) h1 := hq h1 hs h40 ⟨⟨_, _, e1⟩, ⟨_, e2⟩, ⟨f140, h40.trans e140⟩, ⟨_, e3⟩⟩ (fun _ => ⟨by rw [e1]; rfl, ⟨fr, e2, fun j hj => by simp only [wkN, List.append_nil]; exact hfr j hj⟩, by show m + 0 ≤ 7; omega⟩)
      have e138 := e1
      cases a with
      | none =>
        refine ax_iload dX9_find_79 rfl ?_
        refine ax_iconst dX9_find_81 (v := -1) (by decide) ?_
        refine ax_icmp_eqT 155 dX9_find_82 (by decide) rfl ?_
        exact fin m none fr h1 _ _ (fun k hk => by cases hk) hend
      | some k =>
        have hk7 := ha k rfl
        refine ax_iload dX9_find_79 rfl ?_
        refine ax_iconst dX9_find_81 (v := -1) (by decide) ?_
        refine ax_icmp_eqF 155 dX9_find_82 (by decide) (fun q => absurd (show nI k < 0 by rw [show nI k = -1 from q]; decide) (nI_pos (by omega))) ?_
        by_cases hk : k = t
        · refine ax_iload dX9_find_85 rfl ?_
          refine ax_iload_n dX9_find_87 rfl ?_
          refine ax_icmp_eqT 155 dX9_find_88 (by decide) (by rw [hk]; rfl) ?_
          exact fin m (some k) fr h1 _ _ ha hend
        · refine ax_iload dX9_find_85 rfl ?_
          refine ax_iload_n dX9_find_87 rfl ?_
          refine ax_icmp_eqF 155 dX9_find_88 (by decide) (fun q => hk ((nI_eq (by omega) (by omega)).mp q)) ?_
          refine ax_aload_n dX9_find_91 rfl ?_
          refine ax_getf dX9_find_92 flX9_46 e138 rfl ?_
          refine ax_bipush dX9_find_95 (v := nI 7) (by decide) ?_
          refine ax_icmp_geT 155 dX9_find_97 (by decide) (by rw [show m = 7 by omega]; exact Int32.le_refl _) ?_
          exact fin m (some k) fr h1 _ _ ha hend
    | succ n ih =>
      intro m a pre fr h1 o3 o5 hnm hpl hfr ha hs h40 e1 e2 e3 hq
      have e138 := e1
      have e139 := e2
      have e141 := e3
      have hP1 : isA h1 140 10 (nR N) p := hP.kept h40
      have e40 : h1.2.2 140 = some (eI 10 f140) := h40.trans e140
      have hL1 := hLk h1 hs
      cases a with
      | none =>
        refine ax_iload dX9_find_79 rfl ?_
        refine ax_iconst dX9_find_81 (v := -1) (by decide) ?_
        refine ax_icmp_eqT 155 dX9_find_82 (by decide) rfl ?_
        refine fin m none fr h1 _ _ (fun k hk => by cases hk) (hq h1 hs h40 ⟨⟨_, _, e1⟩, ⟨_, e2⟩, ⟨_, e40⟩, ⟨_, e3⟩⟩ (fun q => by cases q))
      | some k =>
        have hk7 := ha k rfl
        refine ax_iload dX9_find_79 rfl ?_
        refine ax_iconst dX9_find_81 (v := -1) (by decide) ?_
        refine ax_icmp_eqF 155 dX9_find_82 (by decide) (fun q => absurd (show nI k < 0 by rw [show nI k = -1 from q]; decide) (nI_pos (by omega))) ?_
        by_cases hk : k = t
        · simp only [wkN, if_pos hk] at hq
          refine ax_iload dX9_find_85 rfl ?_
          refine ax_iload_n dX9_find_87 rfl ?_
          refine ax_icmp_eqT 155 dX9_find_88 (by decide) (by rw [hk]; rfl) ?_
          exact fin m (some k) fr h1 _ _ ha (hq h1 hs h40 ⟨⟨_, _, e1⟩, ⟨_, e2⟩, ⟨_, e40⟩, ⟨_, e3⟩⟩ (fun _ => ⟨e1, ⟨fr, e2, fun j hj => by rw [List.append_nil]; exact hfr j hj⟩, by show m + 0 ≤ 7; omega⟩))
        · simp only [wkN, if_neg hk] at hq
          refine ax_iload dX9_find_85 rfl ?_
          refine ax_iload_n dX9_find_87 rfl ?_
          refine ax_icmp_eqF 155 dX9_find_88 (by decide) (fun q => hk ((nI_eq (by omega) (by omega)).mp q)) ?_
          refine ax_aload_n dX9_find_91 rfl ?_
          refine ax_getf dX9_find_92 flX9_46 e138 rfl ?_
          refine ax_bipush dX9_find_95 (v := nI 7) (by decide) ?_
          refine ax_icmp_geF 155 dX9_find_97 (by decide) (nI_ge (by omega) (by omega)) ?_
          refine ax_aload_n dX9_find_100 rfl ?_
          refine ax_iload dX9_find_101 rfl ?_
          refine ax_cV dX9_find_103 mmX9_firstRoad lkX9_62 miX9_firstRoad msX9_firstRoad (ax_recv_of e138 rfl) rfl rfl (Nat.le_of_ble_eq_true rfl) (Nat.le_of_ble_eq_true rfl) rfl rfl (c_firstRoad hk7 hN hL1 hp hP1 e1 e3 hg hB ⟨_, rfl, ?_⟩)
          refine ax_istore dX9_find_106 (Nat.le_of_ble_eq_true rfl) ?_
          refine ax_aload_n dX9_find_108 rfl ?_
          refine ax_getf dX9_find_109 flX9_9 e138 rfl ?_
          refine ax_aload_n dX9_find_112 rfl ?_
          refine ax_getf dX9_find_113 flX9_46 e138 rfl ?_
          refine ax_iload dX9_find_116 rfl ?_
          refine ax_iast dX9_find_118 e139 (ax_ix_nI (j := m) (by omega) (by decide)) ?_
          refine ax_aload_n dX9_find_119 rfl ?_
          refine ax_dup dX9_find_120 rfl ?_
          refine ax_getf dX9_find_121 flX9_46 ((ax_wr_ne (by decide)).trans (e138)) rfl ?_
          refine ax_iconst dX9_find_124 (v := nI 1) (by decide) ?_
          refine ax_iadd dX9_find_125 ?_
          rw [nI_add]
          refine ax_putf dX9_find_126 flX9_46 ((ax_wr_ne (by decide)).trans (e138)) (Nat.le_of_ble_eq_true rfl) (fun _ => ⟨rfl, rfl⟩) ?_
          refine ax_iload dX9_find_129 rfl ?_
          refine ax_iconst dX9_find_131 (v := -1) (by decide) ?_
          cases hr : fst (frs N p B k) 0 (nR N) with
          | none =>
            rw [hr] at hq
            refine ax_icmp_neF 139 dX9_find_132 (by decide) rfl ?_
            refine ax_iconst dX9_find_135 (v := -1) (by decide) ?_
            refine ax_goto 150 dX9_find_136 (by decide) ?_
            refine ax_istore dX9_find_150 (Nat.le_of_ble_eq_true rfl) ?_
            refine ax_goto 79 dX9_find_152 (by decide) ?_
            refine ax_iload dX9_find_79 rfl ?_
            refine ax_iconst dX9_find_81 (v := -1) (by decide) ?_
            refine ax_icmp_eqT 155 dX9_find_82 (by decide) rfl ?_
            refine fin (m + 1) none fr _ _ _ (fun k hk => by cases hk) (hq _ ((hs.wr (by decide) (by decide)).wr (by decide) (by decide)) ((ax_wr_ne (by decide)).trans ((ax_wr_ne (by decide)).trans h40)) ⟨⟨_, _, ax_wr_eq⟩, ⟨_, (ax_wr_ne (by decide)).trans ax_wr_eq⟩, ⟨_, (ax_wr_ne (by decide)).trans ((ax_wr_ne (by decide)).trans e40)⟩, ⟨_, (ax_wr_ne (by decide)).trans ((ax_wr_ne (by decide)).trans e3)⟩⟩ (fun q => by cases q))
          | some r =>
            rw [hr] at hq
            have hrr := fst_lt hr
            have hR := hN.2.2.1
            refine ax_icmp_neT 139 dX9_find_132 (by decide) (fun q => absurd (show nI r < 0 by rw [show nI r = -1 from q]; decide) (nI_pos (by omega))) ?_
            have e89 : ∃ co hl, h1.2.2 89 = some (eNet 89 (nI (nS N)) (nI (nP N)) (nI (nR N)) co hl) := by obtain ⟨⟨co, hl, e, -⟩, -⟩ := hL1; exact ⟨co, hl, e⟩
            obtain ⟨co, hl, e89⟩ := e89
            have hL2 := hLk _ ((hs.wr (k := 139) (e := eI 7 (upd fr m (on (some r)))) (by decide) (by decide)).wr (k := 138) (e := eWf (nI (m + 1)) (nI pr)) (by decide) (by decide))
            refine ax_aload_n dX9_find_139 rfl ?_
            refine ax_getf dX9_find_140 flX9_21 ax_wr_eq rfl ?_
            refine ax_iload dX9_find_143 rfl ?_
            refine ax_iload dX9_find_145 rfl ?_
            refine ax_cV dX9_find_147 mmX1_otherEnd lkX9_66 miX1_otherEnd msX1_otherEnd (ax_recv_of ((ax_wr_ne (by decide)).trans ((ax_wr_ne (by decide)).trans (e89))) rfl) rfl rfl (Nat.le_of_ble_eq_true rfl) (Nat.le_of_ble_eq_true rfl) rfl rfl (c_otherEnd (by omega) hN hk7 hL2 ⟨_, rfl, ?_⟩)
            refine ax_istore dX9_find_150 (Nat.le_of_ble_eq_true rfl) ?_
            refine ax_goto 79 dX9_find_152 (by decide) ?_
            refine ih (m + 1) (oth N r k) (pre ++ [r]) (upd fr m (nI r)) _ _ _ (by omega) (by rw [List.length_append]; simp [hpl]) (fun j hj => ?_) (fun k' hk' => oth_lt hN (by omega) hk') ((hs.wr (by decide) (by decide)).wr (by decide) (by decide)) ((ax_wr_ne (by decide)).trans ((ax_wr_ne (by decide)).trans h40)) ax_wr_eq ((ax_wr_ne (by decide)).trans ax_wr_eq) ((ax_wr_ne (by decide)).trans ((ax_wr_ne (by decide)).trans e3)) (fun h' g1 g2 g3 g4 => hq h' g1 g2 g3 (fun q => ?_))
            · simp only [upd]
              by_cases hj2 : j = m
              · rw [if_pos hj2, hj2, getD_ar (by omega), hpl, Nat.sub_self]; rfl
              · rw [if_neg hj2, getD_al (by omega)]; exact hfr j (by omega)
            · obtain ⟨q1, q2, q3⟩ := g4 q
              simp only [List.length_cons] at q1 q2 q3 ⊢
              rw [show m + ((wkN N p B t n (oth N r k)).1.length + 1) = m + 1 + (wkN N p B t n (oth N r k)).1.length by omega]
              refine ⟨q1, ?_, q3⟩
              rw [show pre ++ r :: (wkN N p B t n (oth N r k)).1 = pre ++ [r] ++ (wkN N p B t n (oth N r k)).1 by simp]
              exact q2
  -- behind the bettering
  have mid : ∀ (g : Nat → Int32) (h1 : ax_H) (o3 o4 : Option Value), (∀ j, j < 7 → g j = nI ((bfN N p t 7).1 j)) → Same h h1 138 141 → h1.2.2 140 = h.2.2 140 → h1.2.2 138 = some (eWf (nI 0) pp) → h1.2.2 139 = some (eI 7 f139) → h1.2.2 141 = some (eI 7 g) → X G (d + 2) mX9_find 48 [some (.ref 138), some (.int (nI f)), some (.int (nI t)), o3, o4, none] [] h1 Q := by
    intro g h1 o3 o4 hg hs h40 e1 e2 e3
    have hB := bfN_le (t := t) (imN_le (N := N) (p := p) (nR N)) 7
    have e138 := e1
    have e141 := e3
    have hbf := hB f
    refine ax_aload_n dX9_find_48 rfl ?_
    refine ax_aload_n dX9_find_49 rfl ?_
    refine ax_getf dX9_find_50 flX9_18 e138 rfl ?_
    refine ax_iload_n dX9_find_53 rfl ?_
    refine ax_iald dX9_find_54 e141 (ax_ix_nI hf7 (by decide)) ?_
    rw [hg f hf7]
    refine ax_bipush dX9_find_55 (v := nI 16) (by decide) ?_
    refine ax_idiv dX9_find_57 (by decide) ?_
    rw [pk_div (by omega) (by decide) (by decide)]
    refine ax_putf dX9_find_58 flX9_59 e138 (Nat.le_of_ble_eq_true rfl) (fun _ => ⟨rfl, rfl⟩) ?_
    refine ax_aload_n dX9_find_61 rfl ?_
    refine ax_getf dX9_find_62 flX9_18 ax_wr_eq rfl ?_
    refine ax_iload_n dX9_find_65 rfl ?_
    refine ax_iald dX9_find_66 ((ax_wr_ne (by decide)).trans (e141)) (ax_ix_nI hf7 (by decide)) ?_
    rw [hg f hf7]
    refine ax_ldc dX9_find_67 cnX9_41 ?_
    have key := fun o3' : Option Value => walk (bfN N p t 7).1 ((bfN N p t 7).1 f / 16) g hg hB 7 0 (if (bfN N p t 7).1 f < 536870912 then some f else none) [] f139 (ax_wr h1 138 (eWf (nI 0) (nI ((bfN N p t 7).1 f / 16)))) o3' none rfl rfl (fun j hj => by omega) (fun k hk => by
      split at hk
      · cases hk; exact hf7
      · cases hk) (hs.wr (by decide) (by decide)) ((ax_wr_ne (by decide)).trans h40) ax_wr_eq ((ax_wr_ne (by decide)).trans e2) ((ax_wr_ne (by decide)).trans e3) (fun h' g1 g2 g3 g4 => hq h' g1 g2 g3 (fun q => by
        obtain ⟨q1, q2, q3⟩ := g4 q
        rw [Nat.zero_add] at q1 q2 q3
        exact ⟨q1, q2, q3⟩))
    by_cases hfar : (bfN N p t 7).1 f < 536870912
    · simp only [if_pos hfar] at key
      refine ax_icmp_geF 76 dX9_find_69 (by decide) (nI_ge hfar (by decide)) ?_
      refine ax_iload_n dX9_find_72 rfl ?_
      refine ax_goto 77 dX9_find_73 (by decide) ?_
      refine ax_istore dX9_find_77 (Nat.le_of_ble_eq_true rfl) ?_
      exact key _
    · simp only [if_neg hfar] at key
      refine ax_icmp_geT 76 dX9_find_69 (by decide) (show nI 536870912 ≤ _ from nI_le (by omega) (by omega)) ?_
      refine ax_iconst dX9_find_76 (v := -1) (by decide) ?_
      refine ax_istore dX9_find_77 (Nat.le_of_ble_eq_true rfl) ?_
      exact key _
  have loop : ∀ (m i : Nat) (g : Nat → Int32) (h1 : ax_H), i + m = 7 → (∀ j, j < 7 → g j = nI ((bfN N p t i).1 j)) → Same h h1 138 141 → h1.2.2 140 = h.2.2 140 → h1.2.2 138 = some (eWf (nI 0) pp) → h1.2.2 139 = some (eI 7 f139) → h1.2.2 141 = some (eI 7 g) → X G (d + 2) mX9_find 26 [some (.ref 138), some (.int (nI f)), some (.int (nI t)), some (.int (bI (bfN N p t i).2)), some (.int (nI i)), none] [] h1 Q := by
    intro m
    induction m with
    | zero =>
      intro i g h1 hi hg hs h40 e1 e2 e3
      obtain rfl : i = 7 := by omega
      refine ax_iload dX9_find_26 rfl ?_
      refine ax_bipush dX9_find_28 (v := nI 7) (by decide) ?_
      refine ax_icmp_geT 48 dX9_find_30 (by decide) (Int32.le_refl _) ?_
      exact mid g h1 _ _ hg hs h40 e1 e2 e3
    | succ m ih =>
      intro i g h1 hi hg hs h40 e1 e2 e3
      have hB := bfN_le (t := t) (imN_le (N := N) (p := p) (nR N)) i
      have e138 := e1
      refine ax_iload dX9_find_26 rfl ?_
      refine ax_bipush dX9_find_28 (v := nI 7) (by decide) ?_
      refine ax_icmp_geF 48 dX9_find_30 (by decide) (nI_ge (by omega) (by omega)) ?_
      cases hb : (bfN N p t i).2 with
      | false =>
        refine ax_iload_n dX9_find_33 rfl ?_
        refine ax_if_eqT 48 dX9_find_34 (by decide) (by decide) ?_
        refine mid g h1 _ _ (fun j hj => ?_) hs h40 e1 e2 e3
        rw [hg j hj, ← bfN_stop hb (m + 1), show i + (m + 1) = 7 by omega]
      | true =>
        have hst : bfN N p t (i + 1) = imN N p (nR N) (bfN N p t i).1 := by
          show (if (bfN N p t i).2 then imN N p (nR N) (bfN N p t i).1 else bfN N p t i) = _
          rw [hb]; rfl
        refine ax_iload_n dX9_find_33 rfl ?_
        refine ax_if_eqF 48 dX9_find_34 (by decide) (by decide) ?_
        refine ax_aload_n dX9_find_37 rfl ?_
        refine ax_cV dX9_find_38 mmX9_improve lkX9_55 miX9_improve msX9_improve (ax_recv_of e138 rfl) rfl rfl (Nat.le_of_ble_eq_true rfl) (Nat.le_of_ble_eq_true rfl) rfl rfl (c_improve hN (hLk h1 hs) hp (hP.kept h40) e1 e3 hg hB (fun g2 hg2 hB2 => ⟨_, rfl, ?_⟩))
        rw [← hst] at hg2 ⊢
        refine ax_istore_n dX9_find_41 (Nat.le_of_ble_eq_true rfl) ?_
        refine ax_iinc dX9_find_42 rfl (ax_inc 1) ?_
        refine ax_goto 26 dX9_find_45 (by decide) ?_
        rw [nI_add]
        exact ih (i + 1) g2 _ (by omega) hg2 (hs.wr (by decide) (by decide)) ((ax_wr_ne (by decide)).trans h40) ((ax_wr_ne (by decide)).trans e1) ((ax_wr_ne (by decide)).trans e2) ax_wr_eq
  refine ax_aload_n dX9_find_0 rfl ?_
  refine ax_iconst dX9_find_1 (v := nI 0) (by decide) ?_
  refine ax_putf dX9_find_2 flX9_46 e138 (Nat.le_of_ble_eq_true rfl) (fun _ => ⟨rfl, rfl⟩) ?_
  refine ax_aload_n dX9_find_5 rfl ?_
  refine ax_getf dX9_find_6 flX9_18 ax_wr_eq rfl ?_
  refine ax_ldc dX9_find_9 cnX9_41 ?_
  refine ax_cS dX9_find_11 mmJ7_fill_53178 lkX9_49 mtJ7_fill_53178 rfl rfl (Nat.le_of_ble_eq_true rfl) (Nat.le_of_ble_eq_true rfl) rfl rfl (c_fill (by decide) ((ax_wr_ne (by decide)).trans e141) ⟨_, rfl, ?_⟩)
  refine ax_aload_n dX9_find_14 rfl ?_
  refine ax_getf dX9_find_15 flX9_18 ((ax_wr_ne (by decide)).trans (ax_wr_eq)) rfl ?_
  refine ax_iload_n dX9_find_18 rfl ?_
  refine ax_iconst dX9_find_19 (v := nI 0) (by decide) ?_
  refine ax_iast dX9_find_20 ax_wr_eq (ax_ix_nI ht7 (by decide)) ?_
  rw [ax_wr_wr]
  refine ax_iconst dX9_find_21 (v := nI 1) (by decide) ?_
  refine ax_istore_n dX9_find_22 (Nat.le_of_ble_eq_true rfl) ?_
  refine ax_iconst dX9_find_23 (v := nI 0) (by decide) ?_
  refine ax_istore dX9_find_24 (Nat.le_of_ble_eq_true rfl) ?_
  refine loop 7 0 _ _ rfl (fun j hj => ?_) (((Same.rfl'.wr (by decide) (by decide)).wr (by decide) (by decide))) ((ax_wr_ne (by decide)).trans (ax_wr_ne (by decide))) ((ax_wr_ne (by decide)).trans ax_wr_eq) ((ax_wr_ne (by decide)).trans ((ax_wr_ne (by decide)).trans e139)) ax_wr_eq
  show upd (fl 7 (fun _ => 536870912) f141) t (nI 0) j = nI (B0 t j)
  simp only [upd, B0]
  by_cases hj2 : j = t
  · rw [if_pos hj2, if_pos hj2]
  · rw [if_neg hj2, if_neg hj2, fl_in hj]; rfl
end FN2
