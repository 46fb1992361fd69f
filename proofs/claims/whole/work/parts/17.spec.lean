/-! ===== what a net and a state are: numbers by tables =====
N : Nt. N.1 0 0..3: how many stuffs, places, roads, trades; N.1 1, 2: hard, soft; N.1 3, 4, 5: a road's places, long; N.1 6 .. 9: a trade's places, stuff, load; N.2 0, 1, 2: the laws' steps (way, shock, mend).
σ : Sd. σ 0 0: the next year; σ 1: holes; σ 2: surface (5 r + s); σ 3: on purpose; σ 4: fell; σ 5: came last, one more (0: none); σ 6: came in all; σ 7: told; σ 8: layers (50 y + 5 r + s) -/
abbrev Nt : Type := (Nat → Nat → Nat) × (Nat → List Nat)
abbrev Sd : Type := Nat → Nat → Nat
abbrev nS (N : Nt) : Nat := N.1 0 0
abbrev nP (N : Nt) : Nat := N.1 0 1
abbrev nR (N : Nt) : Nat := N.1 0 2
abbrev nT (N : Nt) : Nat := N.1 0 3
def cl (a b : Nat) (x : Int32) : Nat := (clp (nI a) x (nI b)).toNatClampNeg
theorem cl_eq {a b : Nat} (hab : a ≤ b) (hb : b < 2 ^ 31) (x : Int32) : clp (nI a) x (nI b) = nI (cl a b x) ∧ a ≤ cl a b x ∧ cl a b x ≤ b := by
  unfold cl clp
  by_cases h1 : x < nI a
  · rw [if_pos h1, nI_clamp (by omega)]
    exact ⟨rfl, by omega, by omega⟩
  · rw [if_neg h1]
    by_cases h2 : nI b < x
    · rw [if_pos h2, nI_clamp (by omega)]
      exact ⟨rfl, by omega, by omega⟩
    · rw [if_neg h2]
      have h3 : ¬ x < 0 := fun q => h1 (Int32.lt_of_lt_of_le q (nI_pos' (by omega)))
      obtain ⟨j, hj, rfl⟩ := nI_of h3
      rw [nI_clamp hj]
      refine ⟨rfl, ?_, ?_⟩
      · rcases Nat.lt_or_ge j a with q | q
        · exact absurd (nI_lt q (by omega)) h1
        · exact q
      · rcases Nat.lt_or_ge b j with q | q
        · exact absurd (nI_lt q (by omega)) h2
        · exact q
def fc (a0 a1 a2 a3 a4 a5 a6 a7 : Nat) : Nat → Int32 := fun c => if c = 0 then nI a0 else if c = 1 then nI a1 else if c = 2 then nI a2 else if c = 3 then nI a3 else if c = 4 then nI a4 else if c = 5 then nI a5 else if c = 6 then nI a6 else nI a7
/-- the mean of a table over a road's surface -/
def mn (σ : Sd) (g : Nat → Nat) (r : Nat) : Nat := sm (fun s => σ 2 (5 * r + s) * g s) 5 / sm (fun s => σ 2 (5 * r + s)) 5
def price (N : Nt) (σ : Sd) (r ld : Nat) : Nat := cl 1 9999 (ev (N.2 0) (fc (N.1 5 r) (σ 1 r) (mn σ (N.1 1) r) (mn σ (N.1 2) r) ld 0 0 0))
def shock (N : Nt) (σ : Sd) (r s : Nat) : Nat := cl 0 100 (ev (N.2 1) (fc (N.1 5 r) (σ 1 r) (mn σ (N.1 1) r) (mn σ (N.1 2) r) 0 (9 - N.1 2 s) 0 0))
def mend (N : Nt) (σ : Sd) (r s p : Nat) : Nat := cl 0 99 (ev (N.2 2) (fc (N.1 5 r) (σ 1 r) (mn σ (N.1 1) r) (mn σ (N.1 2) r) 0 (9 - N.1 2 s) p (N.1 1 s)))
/-- a net as it is read -/
def nOK (N : Nt) : Prop :=
  nS N ≤ 5 ∧ nP N ≤ 7 ∧ nR N ≤ 10 ∧ nT N ≤ 6 ∧ (∀ s, s < 5 → N.1 1 s ≤ 9 ∧ N.1 2 s ≤ 9) ∧
  (∀ r, r < nR N → N.1 3 r < nP N ∧ N.1 4 r < nP N ∧ N.1 3 r ≠ N.1 4 r ∧ 1 ≤ N.1 5 r ∧ N.1 5 r ≤ 99) ∧
  (∀ t, t < nT N → N.1 6 t < nP N ∧ N.1 7 t < nP N ∧ N.1 6 t ≠ N.1 7 t ∧ N.1 8 t < nS N ∧ 1 ≤ N.1 9 t ∧ N.1 9 t ≤ 999) ∧
  (0 < nR N → ∀ l, l < 3 → okc (N.2 l) 0) ∧ (∀ c ∈ N.2 0, c < 8 → c ≤ 4) ∧ (∀ c ∈ N.2 1, c < 8 → c ≤ 3 ∨ c = 5) ∧ (∀ c ∈ N.2 2, c < 8 → c ≠ 4)
/-- an int row of n places holds g up to m -/
def isA (h : ax_H) (k n m : Nat) (g : Nat → Nat) : Prop := ∃ f : Nat → Int32, h.2.2 k = some (eI n f) ∧ ∀ j, j < m → f j = nI (g j)
def anA (h : ax_H) (k n : Nat) : Prop := ∃ f : Nat → Int32, h.2.2 k = some (eI n f)
theorem isA.kept {h h' : ax_H} {k n m : Nat} {g : Nat → Nat} (hk : h'.2.2 k = h.2.2 k) (a : isA h k n m g) : isA h' k n m g := by
  obtain ⟨f, e, q⟩ := a
  exact ⟨f, hk.trans e, q⟩
theorem anA.kept {h h' : ax_H} {k n : Nat} (hk : h'.2.2 k = h.2.2 k) (a : anA h k n) : anA h' k n := by
  obtain ⟨f, e⟩ := a
  exact ⟨f, hk.trans e⟩
theorem rs_congM {F F' : Nat → Int32} : ∀ (cs : List Nat) (K : Nat → Int32) (t : Nat), (∀ c ∈ cs, c < 8 → F c = F' c) → rs F cs K t = rs F' cs K t
  | [], K, t, _ => rfl
  | c :: cs, K, t, hF => by
    have ih := fun K t => rs_congM (F := F) (F' := F') cs K t (fun c hc => hF c (List.mem_cons_of_mem _ hc))
    simp only [rs]
    by_cases g1 : c < 8
    · rw [if_pos g1, if_pos g1, hF c List.mem_cons_self g1, ih]
    · rw [if_neg g1, if_neg g1]
      by_cases g2 : 16 ≤ c
      · rw [if_pos g2, if_pos g2, ih]
      · rw [if_neg g2, if_neg g2]
        by_cases g3 : c = 8
        · rw [if_pos g3, if_pos g3, ih]
        · rw [if_neg g3, if_neg g3, ih]
theorem ev_congM {cs : List Nat} {F F' : Nat → Int32} (hF : ∀ c ∈ cs, c < 8 → F c = F' c) : ev cs F = ev cs F' := by unfold ev; rw [rs_congM cs _ _ hF]
/-- the laws in the class's net -/
def Laws (h : ax_H) (N : Nt) : Prop := ∃ C LB LE : Nat → Int32, h.2.2 103 = some (eI 1003 C) ∧ h.2.2 104 = some (eI 3 LB) ∧ h.2.2 105 = some (eI 3 LE) ∧ ∀ l, l < 3 → ∃ b, lies C b (N.2 l) ∧ LB l = nI b ∧ LE l = nI (b + (N.2 l).length) ∧ b + (N.2 l).length ≤ 1003
theorem Laws.kept {h h' : ax_H} {N : Nt} (hk : ∀ k, 103 ≤ k → k ≤ 105 → h'.2.2 k = h.2.2 k) (a : Laws h N) : Laws h' N := by
  obtain ⟨C, LB, LE, e1, e2, e3, q⟩ := a
  exact ⟨C, LB, LE, (hk 103 (by omega) (by omega)).trans e1, (hk 104 (by omega) (by omega)).trans e2, (hk 105 (by omega) (by omega)).trans e3, q⟩
/-- the class's net 'land' -/
def Land (h : ax_H) (N : Nt) : Prop :=
  (∃ co hl : Int32, h.2.2 89 = some (eNet 89 (nI (nS N)) (nI (nP N)) (nI (nR N)) co hl) ∧ (hl = 0 ∨ hl = 1) ∧ (hl = 0 → 4 ∉ N.2 0)) ∧
  isA h 92 5 5 (N.1 1) ∧ isA h 93 5 5 (N.1 2) ∧ isA h 94 10 (nR N) (N.1 3) ∧ isA h 95 10 (nR N) (N.1 4) ∧ isA h 96 10 (nR N) (N.1 5) ∧
  h.2.2 98 = some (eTr 98 (nI (nT N))) ∧ isA h 99 6 (nT N) (N.1 6) ∧ isA h 100 6 (nT N) (N.1 7) ∧ isA h 101 6 (nT N) (N.1 8) ∧ isA h 102 6 (nT N) (N.1 9) ∧ Laws h N
theorem Land.kept {h h' : ax_H} {N : Nt} (hk : ∀ k, 89 ≤ k → k ≤ 105 → h'.2.2 k = h.2.2 k) (a : Land h N) : Land h' N := by
  obtain ⟨⟨co, hl, e, q⟩, a1, a2, a3, a4, a5, e2, a6, a7, a8, a9, a10⟩ := a
  exact ⟨⟨co, hl, (hk 89 (by omega) (by omega)).trans e, q⟩, a1.kept (hk _ (by omega) (by omega)), a2.kept (hk _ (by omega) (by omega)), a3.kept (hk _ (by omega) (by omega)), a4.kept (hk _ (by omega) (by omega)), a5.kept (hk _ (by omega) (by omega)), (hk _ (by omega) (by omega)).trans e2, a6.kept (hk _ (by omega) (by omega)), a7.kept (hk _ (by omega) (by omega)), a8.kept (hk _ (by omega) (by omega)), a9.kept (hk _ (by omega) (by omega)), a10.kept (fun k h1 h2 => hk k (by omega) h2)⟩
/-- what the survey has seen: holes, hard, soft; and the shocks that it remembers -/
def Seen (h : ax_H) (N : Nt) (σ : Sd) : Prop :=
  h.2.2 131 = some eSv ∧ anA h 132 8 ∧ anA h 133 32 ∧ isA h 134 10 (nR N) (σ 1) ∧ isA h 135 10 (nR N) (mn σ (N.1 1)) ∧ isA h 136 10 (nR N) (mn σ (N.1 2)) ∧
  ∃ f, h.2.2 137 = some (eI 50 f) ∧ ∀ r s, r < nR N → s < nS N → f (5 * r + s) = -1 ∨ f (5 * r + s) = nI (shock N σ r s)
/-- the state's numbers stay small -/
def sOK (N : Nt) (σ : Sd) : Prop :=
  (∀ r, r < 10 → σ 1 r < 100000) ∧ (∀ r, r < 10 → sm (fun s => σ 2 (5 * r + s)) 5 < 200000000) ∧ (∀ r s, r < 10 → nS N ≤ s → s < 5 → σ 2 (5 * r + s) = 0)
