/-! ===== the entries of the heap: LostRoads at 64 .. 144, LostRoadsModel at 145 .. 166, the law's row at 167 ===== -/
abbrev eI (n : Nat) (f : Nat → Int32) : ax_E := .inl (.int, n, .inl f)
abbrev eJ (n : Nat) (f : Nat → Int64) : ax_E := .inl (.long, n, .inr (.inl f))
abbrev eB (n : Nat) (f : Nat → Int32) : ax_E := .inl (.byte, n, .inl f)
abbrev eZ (n : Nat) (f : Nat → Int32) : ax_E := .inl (.boolean, n, .inl f)
abbrev eT (n : Nat) (f : Nat → Option Nat) : ax_E := .inl (.object "LostRoads$Token", n, .inr (.inr (.inr (.inr f))))
abbrev eQ (n : Nat) (f : Nat → Option Nat) : ax_E := .inl (.object "LostRoads$State", n, .inr (.inr (.inr (.inr f))))
abbrev eX (dr : Int64) : ax_E := .inr (9, [.ref 65, .ref 67, .ref 71, .ref 88, .ref 89, .ref 106, .ref 115, .ref 124, .ref 129, .ref 130, .ref 131, .ref 138, .ref 142, .long dr])
abbrev eTape (len : Int32) : ax_E := .inr (4, [.int len, .ref 66])
abbrev eToks (many : Int32) : ax_E := .inr (5, [.int many, .ref 68, .ref 69, .ref 70])
abbrev eNet (k : Nat) (st pl ro co hl : Int32) : ax_E := .inr (0, [.int st, .int pl, .int ro, .ref (k + 1), .ref (k + 2), .ref (k + 3), .ref (k + 4), .ref (k + 5), .ref (k + 6), .ref (k + 7), .ref (k + 8), .ref (k + 9), .ref (k + 14), .ref (k + 15), .ref (k + 16), .int co, .int hl])
abbrev eRd (here : Nat) (at_ law fault : Int32) : ax_E := .inr (1, [.ref 67, .ref 71, .ref here, .int at_, .int law, .int fault])
abbrev eSt (k : Nat) (year kept : Int32) : ax_E := .inr (2, [.int year, .ref (k + 1), .ref (k + 2), .ref (k + 3), .ref (k + 4), .ref (k + 5), .ref (k + 6), .ref (k + 7), .ref (k + 8), .int kept])
abbrev eTr (k : Nat) (many : Int32) : ax_E := .inr (6, [.int many, .ref (k + 1), .ref (k + 2), .ref (k + 3), .ref (k + 4)])
abbrev eSv : ax_E := .inr (3, [.ref 89, .ref 132, .ref 133, .ref 134, .ref 135, .ref 136, .ref 137])
abbrev eWf (many price : Int32) : ax_E := .inr (7, [.int many, .int price, .ref 139, .ref 89, .ref 131, .ref 140, .ref 141])
abbrev eYr (came : Int32) : ax_E := .inr (8, [.int came, .ref 89, .ref 131, .ref 138, .ref 143, .ref 144])
def b1 (p : Prop) [Decidable p] : Int32 := if p then 1 else 0
theorem b1_01 (p : Prop) [Decidable p] : b1 p = 0 ∨ b1 p = 1 := by unfold b1; by_cases h : p <;> simp [h]
theorem b1_t {p : Prop} [Decidable p] (h : p) : b1 p = 1 := if_pos h
theorem b1_f {p : Prop} [Decidable p] (h : ¬ p) : b1 p = 0 := if_neg h
theorem nar_b {x : Int32} (h : x = 0 ∨ x = 1) : ∀ G : ax_G, narrow .boolean (ax_v G (.int x)) = ax_v G (.int x) ∧ fits .boolean (ax_v G (.int x)) = true := fun G => by rcases h with rfl | rfl <;> exact ⟨rfl, rfl⟩
theorem ax_inc {x : Int32} (n : Nat) : x + Int32.ofInt (n : Int) = x + nI n := rfl
theorem ax_incm {x : Int32} (n : Nat) : x + Int32.ofInt (-(n : Int)) = x - nI n := by
  rw [show Int32.ofInt (-(n : Int)) = -Int32.ofInt (n : Int) from Int32.ofInt_neg _]
  exact (Int32.sub_eq_add_neg _ _).symm
/-- sums -/
def sm (f : Nat → Nat) : Nat → Nat
  | 0 => 0
  | n + 1 => sm f n + f n
theorem sm_le {f : Nat → Nat} {c : Nat} : ∀ {n : Nat}, (∀ k, k < n → f k ≤ c) → sm f n ≤ n * c
  | 0, _ => Nat.zero_le _
  | n + 1, h => by
    have h1 := sm_le (n := n) (fun k hk => h k (by omega))
    have h2 := h n (by omega)
    show sm f n + f n ≤ _
    rw [Nat.succ_mul]
    omega
theorem sm_cong {f g : Nat → Nat} : ∀ {n : Nat}, (∀ k, k < n → f k = g k) → sm f n = sm g n
  | 0, _ => rfl
  | n + 1, h => by
    show sm f n + f n = sm g n + g n
    rw [sm_cong (fun k hk => h k (by omega)), h n (by omega)]
theorem nI_cell (a b : Nat) : nI a * nI 5 + nI b = nI (5 * a + b) := by rw [pk_mul, nI_add, Nat.mul_comm]
theorem wrI {h : ax_H} {k n : Nat} {f g : Nat → Int32} (hf : ∀ j, f j = g j) : ax_wr h k (eI n f) = ax_wr h k (eI n g) := by rw [show f = g from funext hf]
theorem updI {f : Nat → Int32} {i : Nat} {x : Int32} {j : Nat} : upd f i x j = if j = i then x else f j := rfl
/-- a row that is filled from its beginning: done up to i -/
def fl (i : Nat) (g f : Nat → Int32) : Nat → Int32 := fun j => if j < i then g j else f j
theorem fl_0 (g f : Nat → Int32) : fl 0 g f = f := funext fun j => if_neg (Nat.not_lt_zero j)
theorem fl_s {i : Nat} {g f : Nat → Int32} {x : Int32} (hx : x = g i) : upd (fl i g f) i x = fl (i + 1) g f := by
  funext j
  simp only [upd, fl]
  by_cases h1 : j = i
  · subst h1; simp [hx]
  · simp only [h1, if_false]
    by_cases h2 : j < i
    · rw [if_pos h2, if_pos (by omega)]
    · rw [if_neg h2, if_neg (by omega)]
theorem fl_in {i j : Nat} {g f : Nat → Int32} (h : j < i) : fl i g f j = g j := if_pos h
theorem fl_out {i j : Nat} {g f : Nat → Int32} (h : i ≤ j) : fl i g f j = f j := if_neg (by omega)
