/-! ===== what holds between the law's calls ===== -/
section JNT
variable {G : ax_G} {d : Nat} {h : ax_H} {Q : ax_O → ax_H → Prop} {N : Nt} {σ : Sd} {μ : Nat → Option Sd} {tp : List Nat}
/-- the numbers of a state stay small -/
def SI (N : Nt) (σ : Sd) (y : Nat) : Prop := Bd N σ 6000 y ∧ (∀ c, σ 3 c ≤ 99) ∧ (∀ s, s < 5 → σ 7 s ≤ 9999) ∧ ∀ t, nT N ≤ t → σ 6 t = 0
theorem SI.mono {y y' : Nat} (a : SI N σ y) (h : y ≤ y') : SI N σ y' := ⟨⟨a.1.1, a.1.2.1, a.1.2.2.1, a.1.2.2.2.1, Nat.le_trans a.1.2.2.2.2 h⟩, a.2⟩
theorem tf6 {tr : Nat → Nat → Nat} {j : Nat} : ∀ i, i ≤ j → (tf N σ tr i).2.2.2.2.1 j = σ 6 j
  | 0, _ => rfl
  | i + 1, hi => by
    show (t1 N σ tr i (tf N σ tr i)).2.2.2.2.1 j = σ 6 j
    unfold t1
    split
    · show adN (tf N σ tr i).2.2.2.2.1 i _ j = σ 6 j
      rw [← tf6 (tr := tr) i (by omega)]
      unfold adN
      rw [if_neg (by omega)]
    · exact tf6 i (by omega)
theorem SI.yrn {y : Nat} (hN : nOK N) (a : SI N σ y) : ∀ n, SI N (yN N 40 (trN N) (nT N) none σ n) (y + n)
  | 0 => a
  | n + 1 => by
    obtain ⟨b1, b2, b3, b4⟩ := SI.yrn hN a n
    refine ⟨b1.year hN hN.tr (by omega), fun c => b2 c, fun s z => b3 s z, fun t z => ?_⟩
    show (tf N (yN N 40 (trN N) (nT N) none σ n) (trN N) (nT N)).2.2.2.2.1 t = 0
    rw [tf6 (nT N) z]
    exact b4 t z
theorem SI.years {y : Nat} {x : Int32} (hN : nOK N) (a : SI N σ y) : SI N (sYears N σ x) (y + 50) := by
  unfold sYears
  rcases yrs_cases x with ⟨e, -⟩ | ⟨n, -, h2, -, e, -⟩
  · rw [e]; exact a.mono (by omega)
  · rw [e]; exact (a.yrn hN n).mono (by omega)
theorem SI.lose {y : Nat} {x w p : Int32} {σ' : Sd} (a : SI N σ y) (h : sLose N σ x w p = some σ') : SI N σ' y := by
  unfold sLose at h
  split at h
  · rename_i r s v e1 e2 e3
    rw [← Option.some.inj h]
    have hv : v < 100 := by
      rcases ix_cases (n := 100) (by omega) p with ⟨q, -⟩ | ⟨j, j1, -, q, -⟩
      · rw [q] at e3; cases e3
      · rw [q] at e3; cases e3; exact j1
    obtain ⟨⟨c1, c2, c3, c4, c5⟩, b2, b3, b4⟩ := a
    have e : ∀ c, sUp σ 3 (5 * r + s) v 3 c ≤ 99 := fun c => by
      unfold sUp
      rw [if_pos rfl]
      unfold upN
      split
      · omega
      · exact b2 c
    exact ⟨⟨c1, c2, c3, fun c => Nat.le_trans (e c) (by omega), c5⟩, e, b3, b4⟩
  · cases h
theorem SI.told {y : Nat} {x p : Int32} {σ' : Sd} (a : SI N σ y) (h : sTold N σ x p = some σ') : SI N σ' y := by
  unfold sTold at h
  split at h
  · rename_i s v e1 e2
    rw [← Option.some.inj h]
    have hv : v < 10000 := by
      rcases ix_cases (n := 10000) (by omega) p with ⟨q, -⟩ | ⟨j, j1, -, q, -⟩
      · rw [q] at e2; cases e2
      · rw [q] at e2; cases e2; exact j1
    obtain ⟨⟨c1, c2, c3, c4, c5⟩, b2, b3, b4⟩ := a
    refine ⟨⟨c1, c2, c3, c4, c5⟩, b2, fun c z => ?_, b4⟩
    unfold sUp
    rw [if_pos rfl]
    unfold upN
    split
    · omega
    · exact b3 c z
  · cases h
theorem sm_zero {f : Nat → Nat} : ∀ n, (∀ k, k < n → f k = 0) → sm f n = 0
  | 0, _ => rfl
  | n + 1, h => by
    show sm f n + f n = 0
    rw [sm_zero n (fun k z => h k (by omega)), h n (by omega)]
theorem SI.init {H : Nat → Nat} {y : Nat} (hH : ∀ r, H r ≤ 999) : SI N (s0 H) y := by
  refine ⟨⟨fun r _ => ?_, fun r _ => ?_, fun _ _ _ _ _ => rfl, fun c => Nat.zero_le _, Nat.zero_le _⟩, fun c => Nat.zero_le _, fun _ _ => Nat.zero_le _, fun _ _ => rfl⟩
  · have := hH r
    show H r ≤ 6000
    omega
  · exact Nat.le_trans (Nat.le_of_eq (sm_zero 5 (fun _ _ => rfl))) (Nat.zero_le _)
/-- the class's reading side -/
def CN (h : ax_H) (tp : List Nat) : Prop := Tape h tp ∧ anA h 97 10 ∧ ∃ (ts : List CT) (l : Nat) (D : DD) (cs : List Nat) (lb le : Nat → Nat) (hl : Int32) (k0 : Nat) (x f0 : Int32), TkP h ts ∧ h.2.2 88 = some (eRd k0 x (nI l) f0) ∧ DrD h D cs lb le hl ∧ (∀ s, s < 5 → D.1.1 1 s ≤ 9 ∧ D.1.1 2 s ≤ 9) ∧ ∀ r, D.2.1 r ≤ 999
theorem CN.kept {h' : ax_H} (a : CN h tp) (hk : ∀ j, 65 ≤ j → j ≤ 97 → (j ≤ 88 ∨ j = 97) → h'.2.2 j = h.2.2 j) : CN h' tp := by
  obtain ⟨a1, ⟨f, e97⟩, ts, l, D, cs, lb, le, hl, k0, x, f0, a2, a3, a4, a5⟩ := a
  exact ⟨a1.kept (fun j z1 z2 => hk j z1 (by omega) (by omega)), ⟨f, (hk 97 (by omega) (by omega) (by omega)).trans e97⟩, ts, l, D, cs, lb, le, hl, k0, x, f0, a2.kept (fun j z1 z2 => hk j (by omega) (by omega) (by omega)), (hk 88 (by omega) (by omega) (by omega)).trans a3, a4.kept (fun j z1 z2 => hk j (by omega) (by omega) (by omega)), a5⟩
theorem MkR.kept {h' : ax_H} (a : MkR h N μ) (h1 : h.1 ≤ h'.1) (hk : ∀ j, j = 129 ∨ j = 130 ∨ 168 ≤ j → h'.2.2 j = h.2.2 j) : MkR h' N μ := by
  obtain ⟨f, g, e129, e130, h168, hg, hf, hfm, hfs⟩ := a
  refine ⟨f, g, (hk _ (by omega)).trans e129, (hk _ (by omega)).trans e130, by omega, hg, fun m k hm hk' => ?_, hfm, hfs⟩
  obtain ⟨z1, z2, z3, z4⟩ := hf m k hm hk'
  exact ⟨z1, by omega, z3.kept (fun j y1 y2 => hk j (by omega)), fun τ hτ => (z4 τ hτ).kept (fun j y1 y2 => hk j (by omega))⟩
/-- the class, with all that it keeps -/
def CP (h : ax_H) (N : Nt) (σ : Sd) (μ : Nat → Option Sd) (tp : List Nat) : Prop := Cs h N σ ∧ MkR h N μ ∧ CN h tp
theorem CP.kept {h' : ax_H} (a : CP h N σ μ tp) (h1 : h.1 ≤ h'.1) (hk : ∀ j, (64 ≤ j ∧ j ≤ 144) ∨ 168 ≤ j → h'.2.2 j = h.2.2 j) : CP h' N σ μ tp := ⟨a.1.kept' (fun j z1 z2 => hk j (by omega)), a.2.1.kept h1 (fun j z => hk j (by omega)), a.2.2.kept (fun j z1 z2 z3 => hk j (by omega))⟩
/-- the model, with all that it keeps -/
def MP (h : ax_H) (N : Nt) (σ : Sd) (μ : Nat → Option Sd) (tp : List Nat) : Prop := (∃ th, MoI h th (nI tp.length) N σ μ) ∧ TpM h tp ∧ PsK h
theorem MoI.kept {h' : ax_H} {th ta : Int32} (a : MoI h th ta N σ μ) (hk : ∀ j, 145 ≤ j → j ≤ 166 → h'.2.2 j = h.2.2 j) : MoI h' th ta N σ μ := by
  obtain ⟨si, pt, fa, co, nm, rd, bc, bm, gg, F, S, O, A, e, b⟩ := a
  exact ⟨si, pt, fa, co, nm, rd, bc, bm, gg, F, S, O, A, (hk 145 (by omega) (by omega)).trans e, b.kept (fun j z1 z2 => hk j (by omega) z2)⟩
theorem MP.kept {h' : ax_H} (a : MP h N σ μ tp) (hk : ∀ j, 145 ≤ j → j ≤ 166 → h'.2.2 j = h.2.2 j) : MP h' N σ μ tp := by
  obtain ⟨⟨th, a1⟩, a2, a3⟩ := a
  exact ⟨⟨th, a1.kept hk⟩, a2.kept (hk 146 (by omega) (by omega)), a3.kept (fun j z1 z2 z3 => hk j (by omega) (by omega))⟩
/-- between the law's calls; i calls are done -/
def LJ (h : ax_H) (i : Nat) : Prop := ∃ (N : Nt) (σ : Sd) (μ : Nat → Option Sd) (tp : List Nat), nOK N ∧ SI N σ (50 * i) ∧ (∀ m τ, m < 4 → μ m = some τ → SI N τ (50 * i)) ∧ CP h N σ μ tp ∧ MP h N σ μ tp ∧ (∃ f, h.2.2 167 = some (eJ 1 f)) ∧ 168 ≤ h.1 ∧ h.1 ≤ 168 + 10 * i ∧ h.2.1 ≤ 60000 + 2300 * i
theorem Cs.k2 {h' : ax_H} (a : Cs h N σ) (hk : ∀ j, j = 64 ∨ (89 ≤ j ∧ j ≤ 144) → h'.2.2 j = h.2.2 j) : Cs h' N σ := by
  obtain ⟨⟨dr, e64⟩, hL, hE, hA, hT, hS⟩ := a
  exact ⟨⟨dr, (hk 64 (by omega)).trans e64⟩, hL.kept (fun j z1 z2 => hk j (by omega)), hE.kept (fun j z1 z2 => hk j (by omega)), hA.kept (fun j z1 z2 => hk j (by omega)), hT.kept (fun j z1 z2 => hk j (by omega)), hS.kept (fun j z1 z2 => hk j (by omega))⟩
/-- the keys that the class's calls may write, but feed, net and mark -/
def wrK (j : Nat) : Prop := j = 64 ∨ (106 ≤ j ∧ j ≤ 128) ∨ (131 ≤ j ∧ j ≤ 144) ∨ j = 167
theorem CP.tr {h1 : ax_H} {σ' : Sd} {P : Nat → Prop} (a : CP h N σ μ tp) (hb : Gw h h1 P) (hP : ∀ j, P j → wrK j) (hC : Cs h1 N σ') : CP h1 N σ' μ tp := ⟨hC, a.2.1.kept hb.1 (fun j z => hb.2.2.2 j (fun y => by have := hP j y; unfold wrK at this; omega)), a.2.2.kept (fun j z1 z2 z3 => hb.2.2.2 j (fun y => by have := hP j y; unfold wrK at this; omega))⟩
theorem MP.tr {h1 : ax_H} {P : Nat → Prop} (a : MP h N σ μ tp) (hb : Gw h h1 P) (hP : ∀ j, P j → wrK j) : MP h1 N σ μ tp := a.kept (fun j z1 z2 => hb.2.2.2 j (fun y => by have := hP j y; unfold wrK at this; omega))
theorem LJ.mk {h1 h2 : ax_H} {i : Nat} {th : Int32} {P : Nat → Prop} (hN : nOK N) (hS : SI N σ (50 * i + 50)) (hM : ∀ m τ, m < 4 → μ m = some τ → SI N τ (50 * i + 50)) (hC : CP h1 N σ μ tp) (hb : But h1 h2 P) (hP : ∀ j, P j → 145 ≤ j ∧ j ≤ 166) (hI : MoI h2 th (nI tp.length) N σ μ) (hT : TpM h2 tp) (hK : PsK h2) (e167 : ∃ f, h1.2.2 167 = some (eJ 1 f)) (s1 : 168 ≤ h1.1) (s2 : h1.1 ≤ 168 + 10 * i + 10) (s3 : h1.2.1 ≤ 60000 + 2300 * i + 2300) : LJ h2 (i + 1) := by
  obtain ⟨f, e⟩ := e167
  refine ⟨N, σ, μ, tp, hN, hS, hM, hC.kept (Nat.le_of_eq hb.1.symm) (fun j z => hb.2.2 j (fun y => by have := hP j y; omega)), ⟨⟨th, hI⟩, hT, hK⟩, ⟨f, (hb.2.2 167 (fun y => by have := hP _ y; omega)).trans e⟩, ?_, ?_, ?_⟩
  · rw [hb.1]; exact s1
  · rw [hb.1]; omega
  · rw [hb.2.1]; exact Nat.le_trans s3 (Nat.le_of_eq (by rw [Nat.mul_succ, Nat.add_assoc]))
theorem moP_r : ∀ j, moP j → 145 ≤ j ∧ j ≤ 166 := fun j z => by unfold moP at z; omega
theorem TpM.mo {h2 : ax_H} (a : TpM h tp) (hb : But h h2 moP) : TpM h2 tp := a.kept (hb.2.2 146 (by unfold moP; omega))
theorem PsK.mo {h2 : ax_H} (a : PsK h) (hb : But h h2 moP) : PsK h2 := a.kept (fun j z1 z2 z3 => hb.2.2 j (by unfold moP; omega))
theorem sc_ix {G : ax_G} {i k : Nat} (h1 : 7 * i + k < gn G) (h2 : gn G ≤ 3584) : ax_ix (nI (7 * i) + nI k) (gn G) (7 * i + k) := by
  rw [nI_add (7 * i) k]
  exact ax_ix_nI h1 (by omega)
end JNT
