/-! ===== laws read: codes grow, the model's table of laws ===== -/
section MLP
variable {ts : List CT} {l t : Nat}
theorem joinL_z {lv : Nat} {nxt : ES → ES} {e : ES} (h0 : ¬ e.1.2 = 0) : ∀ n, joinL ts lv nxt n e = e
  | 0 => rfl
  | _ + 1 => if_neg (fun q => h0 q.1)
theorem join_z {lv : Nat} {nxt : ES → ES} (hz : ∀ e : ES, ¬ e.1.2 = 0 → nxt e = e) {e : ES} (h0 : ¬ e.1.2 = 0) : join ts lv nxt e = e := by
  unfold join
  rw [hz e h0]
  exact joinL_z h0 _
theorem joinAll_z {r : Nat} {e : ES} (h0 : ¬ e.1.2 = 0) : joinAll ts (mPart ts l r) e = e := join_z (fun _ z3 => join_z (fun _ z2 => join_z (fun _ z1 => join_z (fun _ z => mPart_z z r) z1) z2) z3) h0
/-- what is read without a fault lays at least one code -/
def Gp (ts : List CT) (F : ES → ES) : Prop := ∀ e : ES, eOK ts e → e.2.1.length ≤ e.1.1 → (F e).1.2 = 0 → e.1.2 = 0 ∧ e.2.1.length < (F e).2.1.length
theorem join_gp {lv : Nat} {nxt : ES → ES} (hlv : lv < 4) (hE : tsE ts) (hn : FOK ts nxt) (hg : Gr ts nxt) (hp : Gp ts nxt) : Gp ts (join ts lv nxt) := fun e a b c => by
  unfold join at c ⊢
  have h1 : (nxt e).1.2 = 0 := Decidable.byContradiction (fun q => by rw [joinL_z q] at c; exact q c)
  have x := hp e a b h1
  have m := (joinL_gr hlv hE hn hg (if lv = 1 then 1 else 1001) (nxt e) (hn e a)).2.2
  exact ⟨x.1, by omega⟩
theorem joinAll_gp {F : ES → ES} (hE : tsE ts) (hn : FOK ts F) (hg : Gr ts F) (hp : Gp ts F) : Gp ts (joinAll ts F) := by
  have g3 := join_gr (lv := 3) (by omega) hE hn hg
  have g2 := join_gr (lv := 2) (by omega) hE (join_ok hn) g3
  have g1 := join_gr (lv := 1) (by omega) hE (join_ok (join_ok hn)) g2
  have p3 := join_gp (lv := 3) (by omega) hE hn hg hp
  have p2 := join_gp (lv := 2) (by omega) hE (join_ok hn) g3 p3
  have p1 := join_gp (lv := 1) (by omega) hE (join_ok (join_ok hn)) g2 p2
  exact join_gp (lv := 0) (by omega) hE (join_ok (join_ok (join_ok hn))) g1 p1
theorem mPart_gp (hl : l < 3) (ht : tsOK ts) (hE : tsE ts) : ∀ r, Gp ts (mPart ts l r) := by
  intro r
  induction r with
  | zero =>
    intro e a b c
    by_cases h0 : e.1.2 = 0
    · by_cases hp : isPt ts l e.1.1
      · rw [mPart_0 h0 hp] at c; exact absurd c (sFail_f (by omega))
      · rw [mPart_n h0 hp] at c; exact absurd c (sFail_f (by omega))
    · rw [mPart_z h0] at c; exact absurd c h0
  | succ r ih =>
    intro e a b c
    have hs1 := a.1.1
    have ht1 := ht.1
    have hk31 := (ht.2 _ hs1).1
    by_cases h0 : e.1.2 = 0
    · refine ⟨h0, ?_⟩
      by_cases hp : isPt ts l e.1.1
      · have hkz : ¬ kA ts e.1.1 = 0 := by
          rcases hp with z | z | z | z
          · intro y; exact z (fIn_2 l hl _ hk31 (by omega))
          · omega
          · omega
          · omega
        have st1 := sStep_y hE a.1 h0 hkz
        have a1 : (sStep ts e.1).1 = e.1.1 + 1 := by rw [st1]
        by_cases hf : fIn l (kA ts e.1.1) = 0
        · rcases hp with z | z | z | z
          · exact absurd hf z
          · rw [mPart_b h0 hf z, eEmit_e (by omega)]
            dsimp only
            rw [List.length_append, List.length_singleton]; omega
          · rw [mPart_c h0 hf z] at c ⊢
            have x := ih (sStep ts e.1, e.2) ⟨sStep_ok a.1, a.2⟩ (by dsimp only; omega) (by rw [← eEmit_l.2.2]; exact c)
            have y := (eEmit_l (c := 8) (e := mPart ts l r (sStep ts e.1, e.2))).1
            have x2 := x.2
            dsimp only at x2
            omega
          · rw [mPart_d h0 hf z] at c ⊢
            have c2 := (sSkip_0 c).1
            have x := joinAll_gp hE (mPart_ok ht r) (mPart_gr ht hE r) ih (sStep ts e.1, e.2) ⟨sStep_ok a.1, a.2⟩ (by dsimp only; omega) c2
            exact x.2
        · rw [mPart_a h0 hf, eEmit_e (by omega)]
          dsimp only
          rw [List.length_append, List.length_singleton]; omega
      · rw [mPart_n h0 hp] at c; exact absurd c (sFail_f (by omega))
    · rw [mPart_z h0] at c; exact absurd c h0
/-- codes are only laid behind those that lie -/
def Pf (F : ES → ES) : Prop := ∀ e : ES, ∃ xs, (F e).2.1 = e.2.1 ++ xs
theorem eEmit_pf {c : Nat} : Pf (eEmit c) := fun e => by
  unfold eEmit
  dsimp only
  split
  · exact ⟨_, rfl⟩
  · exact ⟨[], (List.append_nil _).symm⟩
theorem Pf.tr {F F' : ES → ES} (a : Pf F) (b : Pf F') : Pf (fun e => F' (F e)) := fun e => by
  obtain ⟨x, hx⟩ := a e
  obtain ⟨y, hy⟩ := b (F e)
  exact ⟨x ++ y, by rw [hy, hx, List.append_assoc]⟩
theorem Pf.id : Pf (fun e => e) := fun e => ⟨[], (List.append_nil _).symm⟩
theorem joinL_pf {lv : Nat} {nxt : ES → ES} (hp : Pf nxt) : ∀ n, Pf (joinL ts lv nxt n)
  | 0 => fun e => ⟨[], (List.append_nil _).symm⟩
  | n + 1 => fun e => by
    unfold joinL
    split
    · obtain ⟨x, hx⟩ := hp (sStep ts e.1, e.2)
      obtain ⟨y, hy⟩ := eEmit_pf (c := stp (kA ts e.1.1)) (nxt (sStep ts e.1, e.2))
      obtain ⟨z, hz⟩ := joinL_pf hp n (eEmit (stp (kA ts e.1.1)) (nxt (sStep ts e.1, e.2)))
      exact ⟨x ++ y ++ z, by rw [hz, hy, hx]; simp only [List.append_assoc]⟩
    · exact ⟨[], (List.append_nil _).symm⟩
theorem join_pf {lv : Nat} {nxt : ES → ES} (hp : Pf nxt) : Pf (join ts lv nxt) := hp.tr (joinL_pf hp _)
theorem joinAll_pf {F : ES → ES} (hp : Pf F) : Pf (joinAll ts F) := join_pf (join_pf (join_pf (join_pf hp)))
theorem mPart_pf : ∀ r, Pf (mPart ts l r)
  | 0 => fun e => by
    unfold mPart
    split
    · split
      · exact ⟨[], (List.append_nil _).symm⟩
      · exact ⟨[], (List.append_nil _).symm⟩
    · exact ⟨[], (List.append_nil _).symm⟩
  | r + 1 => fun e => by
    unfold mPart
    split
    · split
      · split
        · exact eEmit_pf e
        · split
          · exact eEmit_pf e
          · split
            · obtain ⟨x, hx⟩ := mPart_pf r (sStep ts e.1, e.2)
              obtain ⟨y, hy⟩ := eEmit_pf (c := 8) (mPart ts l r (sStep ts e.1, e.2))
              exact ⟨x ++ y, by rw [hy, hx]; simp only [List.append_assoc]⟩
            · exact joinAll_pf (mPart_pf r) (sStep ts e.1, e.2)
      · exact ⟨[], (List.append_nil _).symm⟩
    · exact ⟨[], (List.append_nil _).symm⟩
def LwM (F O A : Nat → Int32) (L : LD) (t : Nat) : Prop := ∀ l, l < 3 → (F (88 + l) = -1 ∧ ¬ L.2.1 l < L.2.2.1 l) ∨ ∃ b, F (88 + l) = nI b ∧ L.2.1 l < L.2.2.1 l ∧ L.2.2.1 l ≤ L.1.length ∧ b + (L.2.2.1 l - L.2.1 l) < t + L.1.length ∧ (∀ j, j < L.2.2.1 l - L.2.1 l → O (1100 + (b + j)) = nI (opc (L.1.getD (L.2.1 l + j) 0)) ∧ A (1100 + (b + j)) = nI (arc (L.1.getD (L.2.1 l + j) 0))) ∧ O (1100 + (b + (L.2.2.1 l - L.2.1 l))) = nI 0
def cn1 (L : LD) (l : Nat) : Nat := if L.2.1 l < L.2.2.1 l then 1 else 0
def cnL (L : LD) : Nat := cn1 L 0 + cn1 L 1 + cn1 L 2
theorem upN_eq {B : Nat → Nat} {k v : Nat} : upN B k v k = v := if_pos rfl
theorem upN_ne {B : Nat → Nat} {k v j : Nat} (h : ¬ j = k) : upN B k v j = B j := if_neg h
theorem cn1_le {L : LD} {l : Nat} : cn1 L l ≤ 1 := by
  unfold cn1
  split <;> omega
theorem cnL_le {L : LD} : cnL L ≤ 3 := by
  have := cn1_le (L := L) (l := 0)
  have := cn1_le (L := L) (l := 1)
  have := cn1_le (L := L) (l := 2)
  unfold cnL
  omega
theorem cnL_up {L : LD} {w a b : Nat} {cs : List Nat} {hl : Int32} (hw : w < 3) (h : ¬ L.2.1 w < L.2.2.1 w) (hab : a < b) : cnL (cs, upN L.2.1 w a, upN L.2.2.1 w b, hl) = cnL L + 1 ∧ cnL L ≤ 2 := by
  have w3 : w = 0 ∨ w = 1 ∨ w = 2 := by omega
  have ew : cn1 (cs, upN L.2.1 w a, upN L.2.2.1 w b, hl) w = 1 := by
    show (if upN L.2.1 w a w < upN L.2.2.1 w b w then 1 else 0) = 1
    simp only [upN_eq]
    exact if_pos hab
  have e0 : cn1 L w = 0 := if_neg h
  have en : ∀ j, ¬ j = w → cn1 (cs, upN L.2.1 w a, upN L.2.2.1 w b, hl) j = cn1 L j := fun j hj => by
    show (if upN L.2.1 w a j < upN L.2.2.1 w b j then 1 else 0) = _
    simp only [upN_ne hj]
    rfl
  have := cn1_le (L := L) (l := 0)
  have := cn1_le (L := L) (l := 1)
  have := cn1_le (L := L) (l := 2)
  unfold cnL
  rcases w3 with q | q | q <;> subst q
  · rw [ew, en 1 (by omega), en 2 (by omega)]; omega
  · rw [ew, en 0 (by omega), en 2 (by omega)]; omega
  · rw [ew, en 0 (by omega), en 1 (by omega)]; omega
theorem gd_app {xs ys : List Nat} {j : Nat} (h : j < xs.length) : (xs ++ ys).getD j 0 = xs.getD j 0 := by
  rw [List.getD_eq_getElem?_getD, List.getElem?_append_left h, ← List.getD_eq_getElem?_getD]
theorem LwM.law {F O A O1 A1 : Nat → Int32} {L : LD} {w : Nat} {cs : List Nat} {hl : Int32} {v : Int32} (a : LwM F O A L t) (_hw : w < 3) (hx : ∃ xs, cs = L.1 ++ xs) (hlt : L.1.length < cs.length) (hX : ExM O1 A1 O A t L.1.length cs) : LwM (upd F (88 + w) (nI (t + L.1.length))) (upd O1 (1100 + (t + cs.length)) (nI 0)) (upd A1 (1100 + (t + cs.length)) v) (cs, upN L.2.1 w L.1.length, upN L.2.2.1 w cs.length, hl) (t + 1) := by
  obtain ⟨x1, x2, x3⟩ := hX
  intro l hl3
  dsimp only
  by_cases e : l = w
  · subst e
    rw [upN_eq, upN_eq]
    refine Or.inr ⟨t + L.1.length, upd_eq, hlt, Nat.le_refl _, by omega, fun j hj => ?_, ?_⟩
    · rw [upd_ne (by omega), upd_ne (by omega), show 1100 + (t + L.1.length + j) = 1100 + t + (L.1.length + j) by omega]
      exact x3 _ (by omega) (by omega)
    · rw [show 1100 + (t + L.1.length + (cs.length - L.1.length)) = 1100 + (t + cs.length) by omega]
      exact upd_eq
  · rw [upN_ne e, upN_ne e, upd_ne (by omega)]
    rcases a l hl3 with ⟨a1, a2⟩ | ⟨b, b1, b2, b3, b4, b5, b6⟩
    · exact Or.inl ⟨a1, a2⟩
    · obtain ⟨xs, hxs⟩ := hx
      refine Or.inr ⟨b, b1, b2, by omega, by omega, fun j hj => ?_, ?_⟩
      · rw [upd_ne (by omega), upd_ne (by omega), (x2 _ (by omega)).1, (x2 _ (by omega)).2, hxs, gd_app (by omega)]
        exact b5 j hj
      · rw [upd_ne (by omega), (x2 _ (by omega)).1]
        exact b6
theorem LwM.kept {F O A F' O' A' : Nat → Int32} {L : LD} (a : LwM F O A L t) (hF : ∀ j, 88 ≤ j → j < 91 → F' j = F j) (hO : ∀ j, O' j = O j ∧ A' j = A j) : LwM F' O' A' L t := by
  intro l hl
  rcases a l hl with ⟨a1, a2⟩ | ⟨b, b1, b2, b3, b4, b5, b6⟩
  · exact Or.inl ⟨(hF _ (by omega) (by omega)).trans a1, a2⟩
  · refine Or.inr ⟨b, (hF _ (by omega) (by omega)).trans b1, b2, b3, b4, fun j hj => ?_, (hO _).1.trans b6⟩
    exact ⟨(hO _).1.trans (b5 j hj).1, (hO _).2.trans (b5 j hj).2⟩
end MLP
