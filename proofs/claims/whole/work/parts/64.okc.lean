/-! ===== the laws of a net read: no stack runs over, no fact stands out of place ===== -/
section OC
variable {ts : List CT} {l : Nat} {s : Nat × Nat}
def fAl (l c : Nat) : Prop := (l = 0 → c ≤ 4) ∧ (l = 1 → c ≤ 3 ∨ c = 5) ∧ (l = 2 → c ≠ 4)
/-- a row of codes that pushes one number, with at most w places -/
def Sg (w l : Nat) (g : List Nat) : Prop := (∀ t rest, t + w ≤ 32 → okc rest (t + 1) → okc (g ++ rest) t) ∧ ∀ c ∈ g, c < 8 → fAl l c
theorem Sg.one {w c : Nat} (hw : 1 ≤ w) (h1 : c < 8 ∨ 16 ≤ c) (h2 : c < 12000) (h3 : c < 8 → fAl l c) : Sg w l [c] :=
  ⟨fun t rest ht hr => ⟨h2, fun _ => ⟨by omega, hr⟩, fun q => by omega, fun q => by omega⟩, fun x hx hx8 => by
    rw [List.mem_singleton] at hx
    subst hx
    exact h3 hx8⟩
theorem Sg.wide {w w' : Nat} {g : List Nat} (h : w ≤ w') (a : Sg w l g) : Sg w' l g := ⟨fun t rest ht hr => a.1 t rest (by omega) hr, a.2⟩
theorem Sg.not {w : Nat} {g : List Nat} (a : Sg w l g) : Sg w l (g ++ [8]) :=
  ⟨fun t rest ht hr => by
    rw [List.append_assoc]
    exact a.1 t _ ht ⟨by omega, fun q => by omega, fun _ => ⟨by omega, hr⟩, fun q => by omega⟩, fun x hx hx8 => by
    rcases List.mem_append.1 hx with q | q
    · exact a.2 x q hx8
    · rw [List.mem_singleton] at q
      omega⟩
theorem Sg.two {w c : Nat} {g g' : List Nat} (hc : 8 < c) (hc' : c < 16) (a : Sg (w + 1) l g) (b : Sg w l g') : Sg (w + 1) l (g ++ (g' ++ [c])) :=
  ⟨fun t rest ht hr => by
    rw [List.append_assoc, List.append_assoc]
    exact a.1 t _ ht (b.1 (t + 1) _ (by omega) ⟨by omega, fun q => by omega, fun q => by omega, fun _ => ⟨by omega, hr⟩⟩), fun x hx hx8 => by
    rcases List.mem_append.1 hx with q | q
    · exact a.2 x q hx8
    · rcases List.mem_append.1 q with q | q
      · exact b.2 x q hx8
      · rw [List.mem_singleton] at q
        omega⟩
/-- F leaves a fault where it is -/
def Fk (F : ES → ES) : Prop := ∀ e, (F e).1.2 = 0 → e.1.2 = 0
def Em (ts : List CT) (l w : Nat) (F : ES → ES) : Prop := ∀ e, eOK ts e → e.2.1.length ≤ e.1.1 → (F e).1.2 = 0 → ∃ g, (F e).2.1 = e.2.1 ++ g ∧ Sg w l g
theorem joinL_f {lv : Nat} {nxt : ES → ES} (hn : Fk nxt) : ∀ n, Fk (joinL ts lv nxt n)
  | 0, e, h => h
  | n + 1, e, h => by
    unfold joinL at h
    split at h
    · rename_i hc
      exact hc.1
    · exact h
theorem join_f {lv : Nat} {nxt : ES → ES} (hn : Fk nxt) : Fk (join ts lv nxt) := fun e h => hn e (joinL_f hn _ _ h)
theorem joinAll_f {p : ES → ES} (hn : Fk p) : Fk (joinAll ts p) := join_f (join_f (join_f (join_f hn)))
theorem mPart_f : ∀ r, Fk (mPart ts l r)
  | 0, e, h => by
    unfold mPart at h
    split at h
    · assumption
    · exact h
  | r + 1, e, h => by
    unfold mPart at h
    split at h
    · assumption
    · exact h
theorem lv_op : ∀ k : Nat, k < 31 → ∀ lv : Nat, lv < 4 → tk_level.getD k 0 = nI lv → 8 < stp k ∧ stp k < 16 := by decide +kernel
theorem fc_op0 : ∀ k : Nat, k < 31 → ¬ fIn 0 k = 0 → stp k ≤ 4 := by decide +kernel
theorem fc_op1 : ∀ k : Nat, k < 31 → ¬ fIn 1 k = 0 → stp k ≤ 3 ∨ stp k = 5 := by decide +kernel
theorem fc_op2 : ∀ k : Nat, k < 31 → ¬ fIn 2 k = 0 → stp k < 8 ∧ stp k ≠ 4 := by decide +kernel
theorem fc_op (k : Nat) (hk : k < 31) (l : Nat) (hl : l < 3) (h : ¬ fIn l k = 0) : stp k < 8 ∧ fAl l (stp k) := by
  rcases lt3 hl with rfl | rfl | rfl
  · have := fc_op0 k hk h
    exact ⟨by omega, by omega, by omega, by omega⟩
  · have := fc_op1 k hk h
    exact ⟨by omega, by omega, by omega, by omega⟩
  · have := fc_op2 k hk h
    exact ⟨by omega, by omega, by omega, by omega⟩
theorem eEmit_at {c : Nat} {e : ES} (h : e.2.1.length < 1003) : (eEmit c e).2.1 = e.2.1 ++ [c] := if_pos h
theorem joinL_em {lv w : Nat} {nxt : ES → ES} (hlv : lv < 4) (ht : tsOK ts) (hE : tsE ts) (hn : FOK ts nxt) (hg : Gr ts nxt) (hf : Fk nxt) (hm : Em ts l w nxt) : ∀ n (e : ES) (base g : List Nat), eOK ts e → e.2.1.length ≤ e.1.1 → e.2.1 = base ++ g → Sg (w + 1) l g → (joinL ts lv nxt n e).1.2 = 0 → ∃ g', (joinL ts lv nxt n e).2.1 = base ++ g' ∧ Sg (w + 1) l g'
  | 0, e, base, g, _, _, hb, hs, _ => ⟨g, hb, hs⟩
  | n + 1, e, base, g, a, ha, hb, hs, h0 => by
    unfold joinL at h0 ⊢
    split at h0
    · rename_i hc
      rw [if_pos hc]
      have b : eOK ts (sStep ts e.1, e.2) := ⟨sStep_ok a.1, a.2⟩
      have s1 := sStep_1 hE a.1 hc.1 (lv_ne0 hlv hc.2)
      have c0 := joinL_f hf n _ h0
      have e2 := eEmit_l (c := stp (kA ts e.1.1)) (e := nxt (sStep ts e.1, e.2))
      rw [e2.2.2] at c0
      obtain ⟨g1, g2, g3⟩ := hg _ b
      have g1' : (sStep ts e.1).1 ≤ (nxt (sStep ts e.1, e.2)).1.1 := g1
      have g2' : (nxt (sStep ts e.1, e.2)).2.1.length + (sStep ts e.1).1 ≤ e.2.1.length + (nxt (sStep ts e.1, e.2)).1.1 := g2
      have nb := hn _ b
      obtain ⟨g', hg', hs'⟩ := hm _ b (by show e.2.1.length ≤ (sStep ts e.1).1; omega) c0
      have := nb.1.1
      have := ht.1
      have ee := eEmit_at (c := stp (kA ts e.1.1)) (e := nxt (sStep ts e.1, e.2)) (by omega)
      have hop := lv_op _ (ht.2 _ a.1.1).1 lv hlv hc.2
      refine joinL_em hlv ht hE hn hg hf hm n _ base (g ++ (g' ++ [stp (kA ts e.1.1)])) (eEmit_ok nb) ?_ ?_ (hs.two hop.1 hop.2 hs') h0
      · rw [ee, e2.2.2, List.length_append, List.length_singleton]; omega
      · rw [ee, hg', show (sStep ts e.1, e.2).2.1 = e.2.1 from rfl, hb]
        simp only [List.append_assoc]
    · rename_i hc
      rw [if_neg hc]
      exact ⟨g, hb, hs⟩
theorem join_em {lv w : Nat} {nxt : ES → ES} (hlv : lv < 4) (ht : tsOK ts) (hE : tsE ts) (hn : FOK ts nxt) (hg : Gr ts nxt) (hf : Fk nxt) (hm : Em ts l w nxt) : Em ts l (w + 1) (join ts lv nxt) := fun e a ha h0 => by
  unfold join at h0 ⊢
  obtain ⟨g, hg', hs⟩ := hm e a ha (joinL_f hf _ _ h0)
  obtain ⟨g1, g2, g3⟩ := hg e a
  exact joinL_em hlv ht hE hn hg hf hm _ _ e.2.1 g (hn e a) (by omega) hg' (hs.wide (by omega)) h0
theorem joinAll_em {w : Nat} {p : ES → ES} (ht : tsOK ts) (hE : tsE ts) (hn : FOK ts p) (hg : Gr ts p) (hf : Fk p) (hm : Em ts l w p) : Em ts l (w + 4) (joinAll ts p) := by
  have h3 := join_em (lv := 3) (by omega) ht hE hn hg hf hm
  have h2 := join_em (lv := 2) (by omega) ht hE (join_ok hn) (join_gr (by omega) hE hn hg) (join_f hf) h3
  have h1 := join_em (lv := 1) (by omega) ht hE (join_ok (join_ok hn)) (join_gr (by omega) hE (join_ok hn) (join_gr (by omega) hE hn hg)) (join_f (join_f hf)) h2
  exact join_em (lv := 0) (by omega) ht hE (join_ok (join_ok (join_ok hn))) (join_gr (by omega) hE (join_ok (join_ok hn)) (join_gr (by omega) hE (join_ok hn) (join_gr (by omega) hE hn hg))) (join_f (join_f (join_f hf))) h1
theorem sFail_n {k : Nat} (hk : 1 ≤ k) : ¬ (sFail ts k s).2 = 0 := by
  unfold sFail
  split
  · show ¬ k + 16 * pA ts s.1 = 0
    omega
  · assumption
theorem mPart_em (hl : l < 3) (ht : tsOK ts) (hE : tsE ts) (hN : tsN ts) : ∀ r, Em ts l (4 * r) (mPart ts l r)
  | 0, e, a, ha, h0 => by
    unfold mPart at h0
    split at h0
    · split at h0
      · exact absurd h0 (sFail_n (by omega))
      · exact absurd h0 (sFail_n (by omega))
    · rename_i q
      exact absurd h0 q
  | r + 1, e, a, ha, h0 => by
    have b : eOK ts (sStep ts e.1, e.2) := ⟨sStep_ok a.1, a.2⟩
    have := a.1.1
    have := ht.1
    have hk := (ht.2 _ a.1.1).1
    have hb' : e.2.1.length ≤ (sStep ts e.1).1 := Nat.le_trans ha sStep_a
    unfold mPart at h0 ⊢
    by_cases z : e.1.2 = 0
    · rw [if_pos z] at h0 ⊢
      by_cases hp : isPt ts l e.1.1
      · rw [if_pos hp] at h0 ⊢
        by_cases hF : ¬ fIn l (kA ts e.1.1) = 0
        · rw [if_pos hF] at h0 ⊢
          have q := fc_op _ hk l hl hF
          exact ⟨[stp (kA ts e.1.1)], eEmit_at (by omega), Sg.one (by omega) (Or.inl q.1) (by omega) (fun _ => q.2)⟩
        · rw [if_neg hF] at h0 ⊢
          by_cases h2 : kA ts e.1.1 = 2
          · rw [if_pos h2] at h0 ⊢
            have q := hN _ a.1.1 h2
            exact ⟨[16 + nA ts e.1.1], eEmit_at (by omega), Sg.one (by omega) (Or.inr (by omega)) (by omega) (fun z => by omega)⟩
          · rw [if_neg h2] at h0 ⊢
            by_cases h14 : kA ts e.1.1 = 14
            · rw [if_pos h14] at h0 ⊢
              obtain ⟨g, hg, hs⟩ := mPart_em hl ht hE hN r _ b hb' h0
              obtain ⟨g1, g2, g3⟩ := mPart_gr ht hE r (l := l) _ b
              have nb := mPart_ok (l := l) ht r _ b
              have := nb.1.1
              refine ⟨g ++ [8], ?_, hs.not.wide (by omega)⟩
              rw [eEmit_at (by have g2' : (mPart ts l r (sStep ts e.1, e.2)).2.1.length + (sStep ts e.1).1 ≤ e.2.1.length + (mPart ts l r (sStep ts e.1, e.2)).1.1 := g2; omega), hg, List.append_assoc]
            · rw [if_neg h14] at h0 ⊢
              exact joinAll_em ht hE (mPart_ok ht r) (mPart_gr ht hE r) (mPart_f r) (mPart_em hl ht hE hN r) _ b hb' (sSkip_0 h0).1
      · rw [if_neg hp] at h0
        exact absurd h0 (sFail_n (by omega))
    · rw [if_neg z] at h0
      exact absurd h0 z
/-- the laws told are rows that push one number each -/
def gL (L : LD) : Prop := ∀ w, w < 3 → L.2.1 w < L.2.2.1 w → ∃ pre g post, L.1 = pre ++ (g ++ post) ∧ pre.length = L.2.1 w ∧ pre.length + g.length = L.2.2.1 w ∧ Sg 24 w g
theorem mLaw_g {w : Nat} {L : LD} (hw : w < 3) (ht : tsOK ts) (hE : tsE ts) (hN : tsN ts) (hs : sOKs ts s) (hL : L.1.length ≤ s.1) (a : gL L) (h0 : (mLaw ts w L s).1.2 = 0) : gL (mLaw ts w L s).2 := by
  unfold mLaw at h0 ⊢
  dsimp only at h0 ⊢
  have o := sOpen_ok (ts := ts) (b := !decide (L.2.1 w < L.2.2.1 w)) (k := 3) (by omega) ht hs
  have oa := sOpen_a (ts := ts) (b := !decide (L.2.1 w < L.2.2.1 w)) (k := 3) (s := s)
  have hl3 : L.1.length ≤ 1003 := by have := hs.1; have := ht.1; omega
  obtain ⟨g, hg, hsg⟩ := joinAll_em ht hE (mPart_ok ht 5) (mPart_gr ht hE 5) (mPart_f 5) (mPart_em hw ht hE hN 5) (sOpen ts (!decide (L.2.1 w < L.2.2.1 w)) 3 s, L.1, L.2.2.2) ⟨o, hl3⟩ (by show L.1.length ≤ (sOpen ts (!decide (L.2.1 w < L.2.2.1 w)) 3 s).1; omega) (sSkip_0 h0).1
  have hg' : (joinAll ts (mPart ts w 5) (sOpen ts (!decide (L.2.1 w < L.2.2.1 w)) 3 s, L.1, L.2.2.2)).2.1 = L.1 ++ g := hg
  intro v hv hlt
  by_cases hvw : v = w
  · subst hvw
    refine ⟨L.1, g, [], by rw [List.append_nil]; exact hg', ?_, ?_, hsg⟩
    · show L.1.length = upN L.2.1 v L.1.length v
      rw [upN_at, if_pos rfl]
    · show L.1.length + g.length = upN L.2.2.1 v (joinAll ts (mPart ts v 5) (sOpen ts (!decide (L.2.1 v < L.2.2.1 v)) 3 s, L.1, L.2.2.2)).2.1.length v
      rw [upN_at, if_pos rfl, hg', List.length_append]
  · have hlt' : upN L.2.1 w L.1.length v < upN L.2.2.1 w (joinAll ts (mPart ts w 5) (sOpen ts (!decide (L.2.1 w < L.2.2.1 w)) 3 s, L.1, L.2.2.2)).2.1.length v := hlt
    rw [upN_at, upN_at, if_neg hvw, if_neg hvw] at hlt'
    obtain ⟨pre, g', post, q1, q2, q3, q4⟩ := a v hv hlt'
    refine ⟨pre, g', post ++ g, ?_, ?_, ?_, q4⟩
    · show (joinAll ts (mPart ts w 5) (sOpen ts (!decide (L.2.1 w < L.2.2.1 w)) 3 s, L.1, L.2.2.2)).2.1 = _
      rw [hg', q1]
      simp only [List.append_assoc]
    · show pre.length = upN L.2.1 w L.1.length v
      rw [upN_at, if_neg hvw, q2]
    · show pre.length + g'.length = upN L.2.2.1 w _ v
      rw [upN_at, if_neg hvw, q3]
theorem mLine_g (ht : tsOK ts) (hE : tsE ts) (hN : tsN ts) {r : RS} (a : rOK ts r) (b : rL r) (c : gL r.2.2.2) (h0 : (mLine ts r).1.2 = 0) : gL (mLine ts r).2.2.2 := by
  unfold mLine at h0 ⊢
  by_cases h15 : kA ts r.1.1 = 15
  · rw [if_pos h15] at h0 ⊢
    exact c
  rw [if_neg h15] at h0 ⊢
  by_cases h16 : kA ts r.1.1 = 16
  · rw [if_pos h16] at h0 ⊢
    exact c
  rw [if_neg h16] at h0 ⊢
  by_cases h17 : kA ts r.1.1 = 17
  · rw [if_pos h17] at h0 ⊢
    exact c
  rw [if_neg h17] at h0 ⊢
  by_cases h18 : kA ts r.1.1 = 18
  · rw [if_pos h18] at h0 ⊢
    exact c
  rw [if_neg h18] at h0 ⊢
  by_cases h20 : kA ts r.1.1 = 20
  · rw [if_pos h20] at h0 ⊢
    exact mLaw_g (by omega) ht hE hN a.1 b.1 c h0
  rw [if_neg h20] at h0 ⊢
  by_cases h21 : kA ts r.1.1 = 21
  · rw [if_pos h21] at h0 ⊢
    exact mLaw_g (by omega) ht hE hN a.1 b.1 c h0
  rw [if_neg h21] at h0 ⊢
  by_cases h22 : kA ts r.1.1 = 22
  · rw [if_pos h22] at h0 ⊢
    exact mLaw_g (by omega) ht hE hN a.1 b.1 c h0
  rw [if_neg h22] at h0 ⊢
  exact c
theorem mRead_g (ht : tsOK ts) (hE : tsE ts) (hN : tsN ts) : ∀ n (r : RS), rOK ts r → rL r → (r.1.2 = 0 → gL r.2.2.2) → (mRead ts n r).1.2 = 0 → gL (mRead ts n r).2.2.2
  | 0, _, _, _, c, h0 => c h0
  | n + 1, r, a, b, c, h0 => by
    unfold mRead at h0 ⊢
    split at h0
    · rename_i hc
      rw [if_pos hc]
      exact mRead_g ht hE hN n _ (mLine_ok ht a) (mLine_L ht hE a b) (fun z => mLine_g ht hE hN a b (c hc.1) z) h0
    · rename_i hc
      rw [if_neg hc]
      exact c h0
theorem flN_g {w c : Nat} {L : LD} (hl : L.1.length < 1003) (hc : c < 8) (hc' : fAl w c) (a : gL L) : gL (flN w c L) ∧ (flN w c L).1.length ≤ L.1.length + 1 := by
  unfold flN
  by_cases hz : L.2.1 w < L.2.2.1 w
  · rw [if_pos hz]
    exact ⟨a, by omega⟩
  · rw [if_neg hz, if_pos hl]
    refine ⟨fun v hv hlt => ?_, by show (L.1 ++ [c]).length ≤ _; rw [List.length_append, List.length_singleton]; omega⟩
    by_cases hvw : v = w
    · subst hvw
      refine ⟨L.1, [c], [], rfl, ?_, ?_, Sg.one (by omega) (Or.inl hc) (by omega) (fun _ => hc')⟩
      · show L.1.length = upN L.2.1 v L.1.length v
        rw [upN_at, if_pos rfl]
      · show L.1.length + 1 = upN L.2.2.1 v (L.1 ++ [c]).length v
        rw [upN_at, if_pos rfl, List.length_append, List.length_singleton]
    · have hlt' : upN L.2.1 w L.1.length v < upN L.2.2.1 w (L.1 ++ [c]).length v := hlt
      rw [upN_at, upN_at, if_neg hvw, if_neg hvw] at hlt'
      obtain ⟨pre, g', post, q1, q2, q3, q4⟩ := a v hv hlt'
      refine ⟨pre, g', post ++ [c], ?_, ?_, ?_, q4⟩
      · show L.1 ++ [c] = _
        rw [q1]
        simp only [List.append_assoc]
      · show pre.length = upN L.2.1 w L.1.length v
        rw [upN_at, if_neg hvw, q2]
      · show pre.length + g'.length = upN L.2.2.1 w _ v
        rw [upN_at, if_neg hvw, q3]
theorem flA3_g {L : LD} (hl : L.1.length ≤ 1000) (a : gL L) : gL (flA3 L) := by
  obtain ⟨a1, l1⟩ := flN_g (w := 0) (c := 0) (by omega) (by omega) ⟨by omega, by omega, by omega⟩ a
  obtain ⟨a2, l2⟩ := flN_g (w := 1) (c := 1) (by omega) (by omega) ⟨by omega, by omega, by omega⟩ a1
  exact (flN_g (w := 2) (c := 7) (by omega) (by omega) ⟨by omega, by omega, by omega⟩ a2).1
/-- the net that net reads is as it must be -/
theorem nNet_ok {tp : List Nat} {l : Nat} {D : DD} (hl : tp.length ≤ 1000) (ho : ∀ s ∈ tp, okS s) (hD : ∀ s, s < 5 → D.1.1 1 s ≤ 9 ∧ D.1.1 2 s ≤ 9) (hH : ∀ r, D.2.1 r ≤ 999) (h0 : (rNet tp l D).1.2 = 0) : nOK (nNet (rNet tp l D)) := by
  obtain ⟨ht, hN⟩ := cutA_ok hl ho
  obtain ⟨lO, rO⟩ := rNet_L (l := l) (D := D) hl ho
  have hlen : 0 < (cutA tp).length := by unfold cutA; rw [List.length_append, List.length_singleton]; omega
  have o0 : rOK (cutA tp) (r0 l D) := ⟨⟨hlen, by show 0 ≤ 20000; omega⟩, by show (0 : Nat) ≤ 5; omega, by show (0 : Nat) ≤ 7; omega, by show (0 : Nat) ≤ 10; omega, by show (0 : Nat) ≤ 6; omega, by show (0 : Nat) ≤ 1003; omega, fun l _ => ⟨by show (0 : Nat) ≤ 1003; omega, by show (0 : Nat) ≤ 1003; omega⟩⟩
  have l0 : rL (r0 l D) := ⟨Nat.le_refl _, fun v _ => Nat.le_refl _⟩
  have g0 : gL (r0 l D).2.2.2 := fun w _ q => absurd q (Nat.not_lt_zero _)
  have t0 : tOK (r0 l D).2.2.1 := ⟨hD, fun r hr => absurd hr (Nat.not_lt_zero _), fun t ht => absurd ht (Nat.not_lt_zero _), hH⟩
  have gR : gL (flA3 (rNet tp l D).2.2.2) := flA3_g lO.1 (mRead_g ht cutA_E hN 1001 _ o0 l0 (fun _ => g0) h0)
  have tR : tOK (rNet tp l D).2.2.1 := mRead_t 1001 _ t0
  have fo := flA3_ok lO
  have laws : ∀ w, w < 3 → Sg 24 w ((nNet (rNet tp l D)).2 w) := fun w hw => by
    obtain ⟨pre, g, post, q1, q2, q3, q4⟩ := gR w hw (fo.2 w hw).1
    have e : (nNet (rNet tp l D)).2 w = g := by
      show ((flA3 (rNet tp l D).2.2.2).1.drop ((flA3 (rNet tp l D).2.2.2).2.1 w)).take ((flA3 (rNet tp l D).2.2.2).2.2.1 w - (flA3 (rNet tp l D).2.2.2).2.1 w) = g
      rw [q1, ← q2, ← q3, List.drop_left, Nat.add_sub_cancel_left, List.take_left]
    rw [e]
    exact q4
  obtain ⟨-, b1', b2', b3', b4', -⟩ := rO
  obtain ⟨t1, t2, t3, -⟩ := tR
  refine ⟨b1', b2', b3', b4', t1, t2, t3, fun _ w hw => ?_, fun c hc h8 => ?_, fun c hc h8 => ?_, fun c hc h8 => ?_⟩
  · have := (laws w hw).1 0 [] (by omega) rfl
    rwa [List.append_nil] at this
  · exact ((laws 0 (by omega)).2 c hc h8).1 rfl
  · exact ((laws 1 (by omega)).2 c hc h8).2.1 rfl
  · exact ((laws 2 (by omega)).2 c hc h8).2.2 rfl
end OC
