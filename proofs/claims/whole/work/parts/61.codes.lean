/-! ===== a reader emits no more codes than it passes tokens ===== -/
section CO
variable {ts : List CT} {l : Nat} {s : Nat × Nat}
def tsE (ts : List CT) : Prop := ∀ i, i < ts.length → ¬ kA ts i = 0 → i + 1 < ts.length
theorem cutA_E {tp : List Nat} : tsE (cutA tp) := fun i hi hk => by
  rcases cutA_at hi with ⟨e1, e⟩ | ⟨e1, -⟩
  · unfold kA at hk
    rw [e] at hk
    exact absurd rfl hk
  · unfold cutA
    rw [List.length_append, List.length_map, List.length_singleton]
    omega
theorem sFail_a {k : Nat} : (sFail ts k s).1 = s.1 := by unfold sFail; split <;> rfl
theorem sStep_a : s.1 ≤ (sStep ts s).1 := by
  unfold sStep
  split
  · show s.1 ≤ s.1 + 1; omega
  · exact Nat.le_refl _
theorem sStep_1 (hE : tsE ts) (hs : sOKs ts s) (h0 : s.2 = 0) (hk : ¬ kA ts s.1 = 0) : (sStep ts s).1 = s.1 + 1 := by
  unfold sStep
  rw [if_pos ⟨h0, hE _ hs.1 hk⟩]
theorem sSkip_a {k : Nat} : s.1 ≤ (sSkip ts k s).1 := by
  unfold sSkip
  refine Nat.le_trans ?_ sStep_a
  split
  · exact Nat.le_refl _
  · rw [sFail_a]; exact Nat.le_refl _
theorem sOpen_a {b : Bool} {k : Nat} : s.1 ≤ (sOpen ts b k s).1 := by
  unfold sOpen
  refine Nat.le_trans ?_ sStep_a
  split
  · exact Nat.le_refl _
  · rw [sFail_a]; exact Nat.le_refl _
/-- F goes on, and emits no more than it passes -/
def Gr (ts : List CT) (F : ES → ES) : Prop := ∀ e, eOK ts e → e.1.1 ≤ (F e).1.1 ∧ (F e).2.1.length + e.1.1 ≤ e.2.1.length + (F e).1.1 ∧ e.2.1.length ≤ (F e).2.1.length
theorem eEmit_l {c : Nat} {e : ES} : e.2.1.length ≤ (eEmit c e).2.1.length ∧ (eEmit c e).2.1.length ≤ e.2.1.length + 1 ∧ (eEmit c e).1 = e.1 := by
  unfold eEmit
  dsimp only
  split
  · rw [List.length_append, List.length_singleton]; exact ⟨by omega, by omega, rfl⟩
  · exact ⟨by omega, by omega, rfl⟩
theorem lv_ne0 {k lv : Nat} (hlv : lv < 4) (h : tk_level.getD k 0 = nI lv) : ¬ k = 0 := fun q => by
  subst q
  have h1 : (-1 : Int32) = nI lv := h
  exact absurd (show nI lv < 0 by rw [← h1]; decide) (nI_pos (by omega))
theorem joinL_gr {lv : Nat} {nxt : ES → ES} (hlv : lv < 4) (hE : tsE ts) (hn : FOK ts nxt) (hg : Gr ts nxt) : ∀ n, Gr ts (joinL ts lv nxt n)
  | 0, e, _ => ⟨Nat.le_refl _, Nat.le_refl _, Nat.le_refl _⟩
  | n + 1, e, a => by
    unfold joinL
    split
    · rename_i hc
      have b : eOK ts (sStep ts e.1, e.2) := ⟨sStep_ok a.1, a.2⟩
      have s1 := sStep_1 hE a.1 hc.1 (lv_ne0 hlv hc.2)
      obtain ⟨g1, g2, g3⟩ := hg _ b
      obtain ⟨m1, m2, m3⟩ := eEmit_l (c := stp (kA ts e.1.1)) (e := nxt (sStep ts e.1, e.2))
      obtain ⟨i1, i2, i3⟩ := joinL_gr hlv hE hn hg n _ (eEmit_ok (c := stp (kA ts e.1.1)) (hn _ b))
      rw [m3] at i1 i2
      have g1' : (sStep ts e.1).1 ≤ (nxt (sStep ts e.1, e.2)).1.1 := g1
      have g2' : (nxt (sStep ts e.1, e.2)).2.1.length + (sStep ts e.1).1 ≤ e.2.1.length + (nxt (sStep ts e.1, e.2)).1.1 := g2
      have g3' : e.2.1.length ≤ (nxt (sStep ts e.1, e.2)).2.1.length := g3
      exact ⟨by omega, by omega, by omega⟩
    · exact ⟨Nat.le_refl _, Nat.le_refl _, Nat.le_refl _⟩
theorem join_gr {lv : Nat} {nxt : ES → ES} (hlv : lv < 4) (hE : tsE ts) (hn : FOK ts nxt) (hg : Gr ts nxt) : Gr ts (join ts lv nxt) := fun e a => by
  unfold join
  obtain ⟨g1, g2, g3⟩ := hg e a
  obtain ⟨i1, i2, i3⟩ := joinL_gr hlv hE hn hg (if lv = 1 then 1 else 1001) (nxt e) (hn e a)
  exact ⟨by omega, by omega, by omega⟩
theorem joinAll_gr {p : ES → ES} (hE : tsE ts) (hn : FOK ts p) (hg : Gr ts p) : Gr ts (joinAll ts p) :=
  join_gr (by omega) hE (join_ok (join_ok (join_ok hn))) (join_gr (by omega) hE (join_ok (join_ok hn)) (join_gr (by omega) hE (join_ok hn) (join_gr (by omega) hE hn hg)))
theorem fIn_0 : ∀ l : Nat, ¬ ¬ fIn l 0 = 0 := by
  intro l
  unfold fIn
  split
  · decide
  · split <;> decide
theorem mPart_gr (ht : tsOK ts) (hE : tsE ts) : ∀ r, Gr ts (mPart ts l r)
  | 0, e, a => by
    unfold mPart
    split
    · split
      · exact ⟨Nat.le_of_eq sFail_a.symm, Nat.le_of_eq (by show e.2.1.length + e.1.1 = e.2.1.length + (sFail ts 5 e.1).1; rw [sFail_a]), Nat.le_refl _⟩
      · exact ⟨Nat.le_of_eq sFail_a.symm, Nat.le_of_eq (by show e.2.1.length + e.1.1 = e.2.1.length + (sFail ts 1 e.1).1; rw [sFail_a]), Nat.le_refl _⟩
    · exact ⟨Nat.le_refl _, Nat.le_refl _, Nat.le_refl _⟩
  | r + 1, e, a => by
    have ih := mPart_gr ht hE r
    have b : eOK ts (sStep ts e.1, e.2) := ⟨sStep_ok a.1, a.2⟩
    unfold mPart
    split
    · rename_i h0
      split
      · rename_i hp
        have hk : ¬ kA ts e.1.1 = 0 := fun q => by
          rcases hp with z | z | z | z
          · rw [q] at z; exact fIn_0 l z
          · omega
          · omega
          · omega
        have s1 := sStep_1 hE a.1 h0 hk
        split
        · obtain ⟨m1, m2, -⟩ := eEmit_l (c := stp (kA ts e.1.1)) (e := e)
          exact ⟨by show e.1.1 ≤ (sStep ts e.1).1; omega, by show (eEmit _ e).2.1.length + e.1.1 ≤ e.2.1.length + (sStep ts e.1).1; omega, m1⟩
        · split
          · obtain ⟨m1, m2, -⟩ := eEmit_l (c := 16 + nA ts e.1.1) (e := e)
            exact ⟨by show e.1.1 ≤ (sStep ts e.1).1; omega, by show (eEmit _ e).2.1.length + e.1.1 ≤ e.2.1.length + (sStep ts e.1).1; omega, m1⟩
          · split
            · obtain ⟨g1, g2, g3⟩ := ih _ b
              obtain ⟨m1, m2, m3⟩ := eEmit_l (c := 8) (e := mPart ts l r (sStep ts e.1, e.2))
              rw [m3]
              have g1' : (sStep ts e.1).1 ≤ (mPart ts l r (sStep ts e.1, e.2)).1.1 := g1
              have g2' : (mPart ts l r (sStep ts e.1, e.2)).2.1.length + (sStep ts e.1).1 ≤ e.2.1.length + (mPart ts l r (sStep ts e.1, e.2)).1.1 := g2
              have g3' : e.2.1.length ≤ (mPart ts l r (sStep ts e.1, e.2)).2.1.length := g3
              exact ⟨by omega, by omega, by omega⟩
            · obtain ⟨g1, g2, g3⟩ := joinAll_gr hE (mPart_ok ht r) ih _ b
              have k1 := sSkip_a (ts := ts) (k := 5) (s := (joinAll ts (mPart ts l r) (sStep ts e.1, e.2)).1)
              have g1' : (sStep ts e.1).1 ≤ (joinAll ts (mPart ts l r) (sStep ts e.1, e.2)).1.1 := g1
              have g2' : (joinAll ts (mPart ts l r) (sStep ts e.1, e.2)).2.1.length + (sStep ts e.1).1 ≤ e.2.1.length + (joinAll ts (mPart ts l r) (sStep ts e.1, e.2)).1.1 := g2
              have g3' : e.2.1.length ≤ (joinAll ts (mPart ts l r) (sStep ts e.1, e.2)).2.1.length := g3
              exact ⟨by dsimp only; omega, by dsimp only; omega, by dsimp only; omega⟩
      · exact ⟨Nat.le_of_eq sFail_a.symm, Nat.le_of_eq (by show e.2.1.length + e.1.1 = e.2.1.length + (sFail ts 1 e.1).1; rw [sFail_a]), Nat.le_refl _⟩
    · exact ⟨Nat.le_refl _, Nat.le_refl _, Nat.le_refl _⟩
end CO
