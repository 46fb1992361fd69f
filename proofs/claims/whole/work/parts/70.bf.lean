/-! ===== the finder's prices are the least ones (pure) ===== -/
section BF
variable {N : Nt} {p : Nat → Nat} {t : Nat}
/-- more things than places: two lie in one -/
theorem twice : ∀ (m n : Nat) (f : Nat → Nat), (∀ i, i < n → f i < m) → m < n → ∃ i j, i < j ∧ j < n ∧ f i = f j
  | 0, n, f, h, hm => absurd (h 0 hm) (Nat.not_lt_zero _)
  | m + 1, n, f, h, hm => by
    by_cases hx : ∃ i, i < n ∧ f i = m
    · obtain ⟨i0, hi0, e0⟩ := hx
      obtain ⟨i, j, hij, hj, e⟩ := Classical.byContradiction (fun hno : ¬ ∃ i j, i < j ∧ j < n ∧ f i = f j => by
        have hne : ∀ i, i < n → i ≠ i0 → f i < m := fun i hi hii => by
          have := h i hi
          have : f i ≠ m := fun q => by
            rcases Nat.lt_or_gt_of_ne hii with z | z
            · exact hno ⟨i, i0, z, hi0, by omega⟩
            · exact hno ⟨i0, i, z, hi, by omega⟩
          omega
        obtain ⟨i, j, hij, hj, e⟩ := twice m (n - 1) (fun i => if i < i0 then f i else f (i + 1)) (fun i hi => by
          split
          · exact hne i (by omega) (by omega)
          · exact hne (i + 1) (by omega) (by omega)) (by omega)
        by_cases z1 : i < i0
        · by_cases z2 : j < i0
          · rw [if_pos z1, if_pos z2] at e
            exact hno ⟨i, j, hij, by omega, e⟩
          · rw [if_pos z1, if_neg z2] at e
            exact hno ⟨i, j + 1, by omega, by omega, e⟩
        · rw [if_neg z1, if_neg (show ¬ j < i0 by omega)] at e
          exact hno ⟨i + 1, j + 1, by omega, by omega, e⟩)
      exact ⟨i, j, hij, hj, e⟩
    · obtain ⟨i, j, hij, hj, e⟩ := twice m n f (fun i hi => by
        have := h i hi
        have : f i ≠ m := fun q => hx ⟨i, hi, q⟩
        omega) (by omega)
      exact ⟨i, j, hij, hj, e⟩
/-- where a row of roads leads -/
def en (N : Nt) : Nat → List Nat → Option Nat
  | a, [] => some a
  | a, r :: ws => match oth N r a with
    | none => none
    | some o => en N o ws
def sp (p : Nat → Nat) : List Nat → Nat
  | [] => 0
  | r :: ws => p r + sp p ws
theorem en_app : ∀ (x y : List Nat) (a b : Nat), en N a x = some b → en N a (x ++ y) = en N b y
  | [], y, a, b, h => by cases h; rfl
  | r :: x, y, a, b, h => by
    unfold en at h
    cases ho : oth N r a with
    | none => rw [ho] at h; cases h
    | some o =>
      rw [ho] at h
      show (match oth N r a with | none => none | some o => en N o (x ++ y)) = _
      rw [ho]
      exact en_app x y o b h
theorem en_part : ∀ (x y : List Nat) (a c : Nat), en N a (x ++ y) = some c → ∃ b, en N a x = some b
  | [], y, a, c, _ => ⟨a, rfl⟩
  | r :: x, y, a, c, h => by
    have h' : (match oth N r a with | none => none | some o => en N o (x ++ y)) = some c := h
    cases ho : oth N r a with
    | none => rw [ho] at h'; cases h'
    | some o =>
      rw [ho] at h'
      obtain ⟨b, hb⟩ := en_part x y o c h'
      refine ⟨b, ?_⟩
      show (match oth N r a with | none => none | some o => en N o x) = _
      rw [ho]
      exact hb
theorem sp_app : ∀ (x y : List Nat), sp p (x ++ y) = sp p x + sp p y
  | [], y => by show sp p y = 0 + sp p y; omega
  | r :: x, y => by
    show p r + sp p (x ++ y) = p r + sp p x + sp p y
    rw [sp_app x y]; omega
/-- roads of the net alone -/
def inR (N : Nt) (ws : List Nat) : Prop := ∀ r ∈ ws, r < nR N
def okE (N : Nt) : Prop := ∀ r, r < nR N → N.1 3 r < 7 ∧ N.1 4 r < 7 ∧ N.1 3 r ≠ N.1 4 r
theorem oth_7 {r a o : Nat} (hN : okE N) (hr : r < nR N) (h : oth N r a = some o) : o < 7 := by
  unfold oth at h
  split at h
  · cases h; exact (hN r hr).2.1
  · split at h
    · cases h; exact (hN r hr).1
    · cases h
theorem en_7 (hN : okE N) : ∀ (ws : List Nat) (a b : Nat), a < 7 → inR N ws → en N a ws = some b → b < 7
  | [], a, b, ha, _, h => by cases h; exact ha
  | r :: ws, a, b, ha, hi, h => by
    unfold en at h
    cases ho : oth N r a with
    | none => rw [ho] at h; cases h
    | some o =>
      rw [ho] at h
      exact en_7 hN ws o b (oth_7 hN (hi r List.mem_cons_self) ho) (fun q hq => hi q (List.mem_cons_of_mem _ hq)) h
/-- a row that is too long can be cut -/
theorem en_cut (hN : okE N) {a b : Nat} {ws : List Nat} (ha : a < 7) (hi : inR N ws) (h : en N a ws = some b) (hl : 7 ≤ ws.length) : ∃ ws', inR N ws' ∧ en N a ws' = some b ∧ sp p ws' ≤ sp p ws ∧ ws'.length < ws.length := by
  have hnd : ∀ i, i < 8 → ((en N a (ws.take i)).getD 0) < 7 := fun i hi8 => by
    obtain ⟨c, hc⟩ := en_part (ws.take i) (ws.drop i) a b (by rw [List.take_append_drop]; exact h)
    rw [hc]
    exact en_7 hN _ a c ha (fun r hr => hi r (List.mem_of_mem_take hr)) hc
  obtain ⟨i, j, hij, hj, e⟩ := twice 7 8 _ hnd (by omega)
  obtain ⟨c, hc⟩ := en_part (ws.take i) (ws.drop i) a b (by rw [List.take_append_drop]; exact h)
  obtain ⟨c', hc'⟩ := en_part (ws.take j) (ws.drop j) a b (by rw [List.take_append_drop]; exact h)
  rw [hc, hc'] at e
  have e' : c = c' := e
  subst e'
  have hz : en N c (ws.drop j) = some b := by
    have := en_app (ws.take j) (ws.drop j) a c hc'
    rw [List.take_append_drop] at this
    rw [← this]; exact h
  have hs : sp p (ws.take i) ≤ sp p (ws.take j) := by
    have : ws.take j = (ws.take j).take i ++ (ws.take j).drop i := (List.take_append_drop i _).symm
    rw [this, sp_app, List.take_take, Nat.min_eq_left (by omega)]
    omega
  refine ⟨ws.take i ++ ws.drop j, fun r hr => ?_, ?_, ?_, ?_⟩
  · rcases List.mem_append.1 hr with q | q
    · exact hi r (List.mem_of_mem_take q)
    · exact hi r (List.mem_of_mem_drop q)
  · rw [en_app _ _ a c hc]; exact hz
  · have : sp p ws = sp p (ws.take j) + sp p (ws.drop j) := by rw [← sp_app, List.take_append_drop]
    rw [sp_app, this]
    omega
  · rw [List.length_append, List.length_take, List.length_drop]
    omega
theorem en_short (hN : okE N) {a b : Nat} (ha : a < 7) : ∀ (n : Nat) (ws : List Nat), ws.length ≤ n → inR N ws → en N a ws = some b → ∃ ws', inR N ws' ∧ en N a ws' = some b ∧ sp p ws' ≤ sp p ws ∧ ws'.length ≤ 6
  | 0, ws, hl, hi, h => ⟨ws, hi, h, Nat.le_refl _, by omega⟩
  | n + 1, ws, hl, hi, h => by
    by_cases h7 : 7 ≤ ws.length
    · obtain ⟨w1, i1, e1, s1, l1⟩ := en_cut (p := p) hN ha hi h h7
      obtain ⟨w2, i2, e2, s2, l2⟩ := en_short hN ha n w1 (by omega) i1 e1
      exact ⟨w2, i2, e2, Nat.le_trans s2 s1, l2⟩
    · exact ⟨ws, hi, h, Nat.le_refl _, by omega⟩
/-- one road bettered -/
theorem im1_le {r : Nat} {B : Nat → Nat} {b : Bool} : ∀ a, (im1 N p r B b).1 a ≤ B a := by
  intro a
  unfold im1
  split
  · show upN B _ _ a ≤ _
    rw [upN_at]
    split
    · rename_i q; rw [q]; omega
    · exact Nat.le_refl _
  · split
    · show upN B _ _ a ≤ _
      rw [upN_at]
      split
      · rename_i q; rw [q]; omega
      · exact Nat.le_refl _
    · exact Nat.le_refl _
theorem im1_rel {r : Nat} {B : Nat → Nat} {b : Bool} (hne : N.1 3 r ≠ N.1 4 r) : (im1 N p r B b).1 (N.1 3 r) ≤ (im1 N p r B b).1 (N.1 4 r) + p r ∧ (im1 N p r B b).1 (N.1 4 r) ≤ (im1 N p r B b).1 (N.1 3 r) + p r := by
  unfold im1
  split
  · show upN B _ _ _ ≤ upN B _ _ _ + _ ∧ upN B _ _ _ ≤ upN B _ _ _ + _
    rw [upN_at, upN_at, if_pos rfl, if_neg (Ne.symm hne)]
    omega
  · split
    · show upN B _ _ _ ≤ upN B _ _ _ + _ ∧ upN B _ _ _ ≤ upN B _ _ _ + _
      rw [upN_at, upN_at, if_pos rfl, if_neg hne]
      omega
    · show B _ ≤ B _ + _ ∧ B _ ≤ B _ + _
      omega
/-- each price below the farthest is that of a row of roads -/
def acv (N : Nt) (p : Nat → Nat) (t : Nat) (B : Nat → Nat) : Prop := ∀ a, B a < 536870912 → ∃ ws, inR N ws ∧ en N a ws = some t ∧ sp p ws = B a
theorem oth_l {r : Nat} : oth N r (N.1 3 r) = some (N.1 4 r) := if_pos rfl
theorem oth_r {r : Nat} (hne : N.1 3 r ≠ N.1 4 r) : oth N r (N.1 4 r) = some (N.1 3 r) := by
  unfold oth
  rw [if_neg hne, if_pos rfl]
theorem im1_acv {r : Nat} {B : Nat → Nat} {b : Bool} (hr : r < nR N) (hne : N.1 3 r ≠ N.1 4 r) (hB : ∀ a, B a ≤ 536870912) (h : acv N p t B) : acv N p t (im1 N p r B b).1 := by
  have key : ∀ x y, oth N r x = some y → B y + p r < B x → acv N p t (upN B x (B y + p r)) := fun x y ho hlt a ha => by
    rw [upN_at] at ha ⊢
    by_cases q : a = x
    · rw [if_pos q] at ha ⊢
      obtain ⟨ws, i1, e1, s1⟩ := h y (by have := hB x; omega)
      refine ⟨r :: ws, fun z hz => ?_, ?_, ?_⟩
      · rcases List.mem_cons.1 hz with rfl | hz
        · exact hr
        · exact i1 z hz
      · show (match oth N r a with | none => none | some o => en N o ws) = _
        rw [q, ho]; exact e1
      · show p r + sp p ws = _
        omega
    · rw [if_neg q] at ha ⊢
      exact h a ha
  unfold im1
  split
  · rename_i hlt
    exact key _ _ oth_l hlt
  · split
    · rename_i hlt
      exact key _ _ (oth_r hne) hlt
    · exact h
theorem imN_dn {B : Nat → Nat} : ∀ n a, (imN N p n B).1 a ≤ B a
  | 0, a => Nat.le_refl _
  | n + 1, a => Nat.le_trans (im1_le a) (imN_dn n a)
theorem imN_acv {B : Nat → Nat} (hN : okE N) (hB : ∀ a, B a ≤ 536870912) (h : acv N p t B) : ∀ n, n ≤ nR N → acv N p t (imN N p n B).1
  | 0, _ => h
  | n + 1, hn => im1_acv (by omega) (hN n (by omega)).2.2 (fun a => Nat.le_trans (imN_dn n a) (hB a)) (imN_acv hN hB h n (by omega))
/-- behind a round each road is bettered against the round before -/
theorem imN_rel {B : Nat → Nat} (hN : okE N) : ∀ n, n ≤ nR N → ∀ r, r < n → (imN N p n B).1 (N.1 3 r) ≤ B (N.1 4 r) + p r ∧ (imN N p n B).1 (N.1 4 r) ≤ B (N.1 3 r) + p r
  | 0, _, r, hr => absurd hr (Nat.not_lt_zero _)
  | n + 1, hn, r, hr => by
    by_cases q : r = n
    · subst q
      obtain ⟨h1, h2⟩ := im1_rel (p := p) (B := (imN N p r B).1) (b := (imN N p r B).2) (hN r (by omega)).2.2
      have a1 := im1_le (N := N) (p := p) (r := r) (B := (imN N p r B).1) (b := (imN N p r B).2) (N.1 4 r)
      have a2 := im1_le (N := N) (p := p) (r := r) (B := (imN N p r B).1) (b := (imN N p r B).2) (N.1 3 r)
      have b1 := imN_dn (N := N) (p := p) (B := B) r (N.1 4 r)
      have b2 := imN_dn (N := N) (p := p) (B := B) r (N.1 3 r)
      exact ⟨by show (im1 N p r _ _).1 _ ≤ _; omega, by show (im1 N p r _ _).1 _ ≤ _; omega⟩
    · obtain ⟨h1, h2⟩ := imN_rel (B := B) hN n (by omega) r (by omega)
      exact ⟨Nat.le_trans (im1_le _) h1, Nat.le_trans (im1_le _) h2⟩
/-- nothing bettered: the round was still -/
theorem im1_still {r : Nat} {B : Nat → Nat} {b : Bool} (h : (im1 N p r B b).2 = false) : (im1 N p r B b).1 = B ∧ b = false := by
  unfold im1 at h ⊢
  split at h
  · cases h
  · rename_i q
    rw [if_neg q]
    split at h
    · cases h
    · rename_i q2
      rw [if_neg q2]
      exact ⟨rfl, h⟩
theorem imN_still {B : Nat → Nat} : ∀ n, (imN N p n B).2 = false → (imN N p n B).1 = B
  | 0, _ => rfl
  | n + 1, h => by
    have h1 := im1_still (N := N) (p := p) (r := n) (B := (imN N p n B).1) (b := (imN N p n B).2) h
    show (im1 N p n _ _).1 = B
    rw [h1.1]
    exact imN_still n h1.2
theorem bfN_dn : ∀ i a, (bfN N p t i).1 a ≤ 536870912 ∧ (bfN N p t (i + 1)).1 a ≤ (bfN N p t i).1 a
  | 0, a => by
    have h0 : B0 t a ≤ 536870912 := by unfold B0; split <;> omega
    exact ⟨h0, imN_dn _ _⟩
  | i + 1, a => by
    obtain ⟨h1, h2⟩ := bfN_dn i a
    refine ⟨Nat.le_trans h2 h1, ?_⟩
    show (if (bfN N p t (i + 1)).2 then imN N p (nR N) (bfN N p t (i + 1)).1 else bfN N p t (i + 1)).1 a ≤ _
    split
    · exact imN_dn _ _
    · exact Nat.le_refl _
theorem bfN_acv (hN : okE N) : ∀ i, acv N p t (bfN N p t i).1
  | 0 => fun a ha => by
    have ha' : B0 t a < 536870912 := ha
    unfold B0 at ha'
    split at ha'
    · rename_i q
      refine ⟨[], (fun r hr => by cases hr), ?_, ?_⟩
      · show some a = some t
        rw [q]
      · show 0 = B0 t a
        unfold B0
        rw [if_pos q]
    · omega
  | i + 1 => by
    show acv N p t (if (bfN N p t i).2 then imN N p (nR N) (bfN N p t i).1 else bfN N p t i).1
    split
    · exact imN_acv hN (fun a => (bfN_dn i a).1) (bfN_acv hN i) _ (Nat.le_refl _)
    · exact bfN_acv hN i
theorem oth_cases {r a o : Nat} (h : oth N r a = some o) : (a = N.1 3 r ∧ o = N.1 4 r) ∨ (a = N.1 4 r ∧ o = N.1 3 r) := by
  unfold oth at h
  split at h
  · rename_i q; cases h; exact Or.inl ⟨q.symm, rfl⟩
  · split at h
    · rename_i q; cases h; exact Or.inr ⟨q.symm, rfl⟩
    · cases h
/-- while it betters: no row of at most i roads is cheaper -/
theorem bfN_low (hN : okE N) : ∀ i, (∀ j, j < i → (bfN N p t j).2 = true) → ∀ (ws : List Nat) (a : Nat), ws.length ≤ i → inR N ws → en N a ws = some t → (bfN N p t i).1 a ≤ sp p ws
  | 0, _, ws, a, hl, _, h => by
    have : ws = [] := List.length_eq_zero_iff.mp (by omega)
    subst this
    cases h
    show B0 t t ≤ _
    unfold B0
    rw [if_pos rfl]
    exact Nat.zero_le _
  | i + 1, hb, ws, a, hl, hi, h => by
    have ih := bfN_low hN i (fun j hj => hb j (by omega))
    cases ws with
    | nil =>
      have := ih [] a (Nat.zero_le _) hi h
      exact Nat.le_trans (bfN_dn i a).2 this
    | cons r ws =>
      have h' : (match oth N r a with | none => none | some o => en N o ws) = some t := h
      cases ho : oth N r a with
      | none => rw [ho] at h'; cases h'
      | some o =>
        rw [ho] at h'
        have hl' : ws.length + 1 ≤ i + 1 := hl
        have h1 := ih ws o (by omega) (fun q hq => hi q (List.mem_cons_of_mem _ hq)) h'
        have hr := hi r List.mem_cons_self
        have e : (bfN N p t (i + 1)).1 = (imN N p (nR N) (bfN N p t i).1).1 := by
          show (if (bfN N p t i).2 then imN N p (nR N) (bfN N p t i).1 else bfN N p t i).1 = _
          rw [hb i (by omega), if_pos rfl]
        rw [e]
        obtain ⟨q1, q2⟩ := imN_rel (p := p) (B := (bfN N p t i).1) hN (nR N) (Nat.le_refl _) r hr
        show _ ≤ p r + sp p ws
        rcases oth_cases ho with ⟨rfl, rfl⟩ | ⟨rfl, rfl⟩
        · omega
        · omega
/-- the prices that the finder ends with: no road betters them, and each is that of a row -/
theorem bf_end (hN : okE N) : (∀ r a o, r < nR N → oth N r a = some o → (bfN N p t 7).1 a ≤ (bfN N p t 7).1 o + p r) := by
  by_cases hs : ∀ j, j < 7 → (bfN N p t j).2 = true
  · intro r a o hr ho
    by_cases hf : (bfN N p t 7).1 o < 536870912
    · obtain ⟨ws, i1, e1, s1⟩ := bfN_acv hN 7 o hf
      have ha : a < 7 := by
        rcases oth_cases ho with ⟨rfl, -⟩ | ⟨rfl, -⟩
        · exact (hN r hr).1
        · exact (hN r hr).2.1
      obtain ⟨w2, i2, e2, s2, l2⟩ := en_short (p := p) hN ha (ws.length + 1) (r :: ws) (Nat.le_refl _) (fun z hz => by
        rcases List.mem_cons.1 hz with rfl | hz
        · exact hr
        · exact i1 z hz) (show (match oth N r a with | none => none | some o => en N o ws) = some t by rw [ho]; exact e1)
      have := bfN_low hN 7 hs w2 a (by omega) i2 e2
      have s2' : sp p w2 ≤ p r + sp p ws := s2
      omega
    · have := (bfN_dn (N := N) (p := p) (t := t) 7 a).1
      omega
  · obtain ⟨j, hj, hb⟩ : ∃ j, j < 7 ∧ (bfN N p t j).2 = false := Classical.byContradiction fun hx => hs fun j hj => by
      cases hb : (bfN N p t j).2 with
      | true => rfl
      | false => exact absurd ⟨j, hj, hb⟩ hx
    have st : ∀ m, bfN N p t (j + m) = bfN N p t j := fun m => by
      induction m with
      | zero => rfl
      | succ m ih =>
        show (if (bfN N p t (j + m)).2 then _ else bfN N p t (j + m)) = _
        rw [ih, hb]
        rfl
    have e7 : bfN N p t 7 = bfN N p t j := by
      have := st (7 - j)
      rwa [show j + (7 - j) = 7 by omega] at this
    have hstill : ∀ j, (bfN N p t j).2 = false → ∃ B, (imN N p (nR N) B).2 = false ∧ (bfN N p t j).1 = B := by
      intro j
      induction j with
      | zero => intro h; cases h
      | succ i ih =>
        intro h
        have h' : (if (bfN N p t i).2 then imN N p (nR N) (bfN N p t i).1 else bfN N p t i).2 = false := h
        cases hc : (bfN N p t i).2 with
        | false =>
          obtain ⟨B, q1, q2⟩ := ih hc
          refine ⟨B, q1, ?_⟩
          show (if (bfN N p t i).2 then imN N p (nR N) (bfN N p t i).1 else bfN N p t i).1 = B
          rw [hc]
          exact q2
        | true =>
          rw [hc, if_pos rfl] at h'
          refine ⟨(bfN N p t i).1, h', ?_⟩
          show (if (bfN N p t i).2 then imN N p (nR N) (bfN N p t i).1 else bfN N p t i).1 = _
          rw [hc, if_pos rfl]
          exact imN_still _ h'
    obtain ⟨B, q1, q2⟩ := hstill j hb
    rw [e7, q2]
    intro r a o hr ho
    have r1 := imN_rel (p := p) (B := B) hN (nR N) (Nat.le_refl _) r hr
    rw [imN_still _ q1] at r1
    rcases oth_cases ho with ⟨rfl, rfl⟩ | ⟨rfl, rfl⟩
    · exact r1.1
    · exact r1.2
theorem bf_low (hN : okE N) : ∀ (ws : List Nat) (a : Nat), inR N ws → en N a ws = some t → (bfN N p t 7).1 t = 0 → (bfN N p t 7).1 a ≤ sp p ws
  | [], a, _, h, h0 => by
    cases h
    omega
  | r :: ws, a, hi, h, h0 => by
    have h' : (match oth N r a with | none => none | some o => en N o ws) = some t := h
    cases ho : oth N r a with
    | none => rw [ho] at h'; cases h'
    | some o =>
      rw [ho] at h'
      have h1 := bf_low hN ws o (fun q hq => hi q (List.mem_cons_of_mem _ hq)) h' h0
      have h2 := bf_end (p := p) (t := t) hN r a o (hi r List.mem_cons_self) ho
      show _ ≤ p r + sp p ws
      omega
theorem bf_t : (bfN N p t 7).1 t = 0 := by
  have h : ∀ i, (bfN N p t i).1 t = 0 := fun i => by
    induction i with
    | zero => show B0 t t = 0; unfold B0; rw [if_pos rfl]
    | succ i ih =>
      have := (bfN_dn (N := N) (p := p) (t := t) i t).2
      omega
  exact h 7
/-- from a place that isn't the end, a road lies on a cheapest row -/
theorem bf_road (hN : okE N) {a : Nat} (ha : a ≠ t) (hf : (bfN N p t 7).1 a < 536870912) : ∃ r o, r < nR N ∧ oth N r a = some o ∧ (bfN N p t 7).1 o + p r = (bfN N p t 7).1 a := by
  obtain ⟨ws, i1, e1, s1⟩ := bfN_acv hN 7 a hf
  cases ws with
  | nil => cases e1; exact absurd rfl ha
  | cons r ws =>
    have h' : (match oth N r a with | none => none | some o => en N o ws) = some t := e1
    cases ho : oth N r a with
    | none => rw [ho] at h'; cases h'
    | some o =>
      rw [ho] at h'
      have hr := i1 r List.mem_cons_self
      have h1 := bf_low (p := p) hN ws o (fun q hq => i1 q (List.mem_cons_of_mem _ hq)) h' bf_t
      have h2 := bf_end (p := p) (t := t) hN r a o hr ho
      have s1' : p r + sp p ws = (bfN N p t 7).1 a := s1
      exact ⟨r, o, hr, ho, by omega⟩
end BF
