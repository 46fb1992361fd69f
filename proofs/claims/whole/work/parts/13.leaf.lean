/-! ===== small methods of LostRoads and its helpers ===== -/
section LEAF
variable {G : ax_G} {d : Nat} {h : ax_H} {Q : ax_O → ax_H → Prop}
theorem c_cell {a b : Int32} (hq : Q (.inl (some (.int (a * nI 5 + b)))) h) : X G d mX11_cell 0 (ax_in 2 [.int a, .int b]) [] h Q := by
  refine ax_iload_n dX11_cell_0 rfl ?_
  refine ax_iconst dX11_cell_1 (v := nI 5) (by decide) ?_
  refine ax_imul dX11_cell_2 ?_
  refine ax_iload_n dX11_cell_3 rfl ?_
  refine ax_iadd dX11_cell_4 ?_
  exact ax_ireturn dX11_cell_5 rfl hq
theorem c_cellN {a b : Nat} (hq : Q (.inl (some (.int (nI (5 * a + b))))) h) : X G d mX11_cell 0 (ax_in 2 [.int (nI a), .int (nI b)]) [] h Q := c_cell (by rw [nI_cell]; exact hq)
def clp (a x b : Int32) : Int32 := if x < a then a else if b < x then b else x
theorem c_within {a x b : Int32} (hq : Q (.inl (some (.int (clp a x b)))) h) : X G d mX11_within 0 (ax_in 3 [.int a, .int x, .int b]) [] h Q := by
  unfold clp at hq
  refine ax_iload_n dX11_within_0 rfl ?_
  refine ax_iload_n dX11_within_1 rfl ?_
  refine ax_icmp_ge 9 dX11_within_2 (by decide) (fun hc => ?_) (fun hc => ?_)
  · rw [if_neg (Int32.not_lt.mpr hc)] at hq
    refine ax_iload_n dX11_within_9 rfl ?_
    refine ax_iload_n dX11_within_10 rfl ?_
    refine ax_icmp_le 18 dX11_within_11 (by decide) (fun hd => ?_) (fun hd => ?_)
    · rw [if_neg (Int32.not_lt.mpr hd)] at hq
      refine ax_iload_n dX11_within_18 rfl ?_
      exact ax_ireturn dX11_within_19 rfl hq
    · rw [if_pos (Int32.not_le.mp hd)] at hq
      refine ax_iload_n dX11_within_14 rfl ?_
      refine ax_goto 19 dX11_within_15 (by decide) ?_
      exact ax_ireturn dX11_within_19 rfl hq
  · rw [if_pos (Int32.not_le.mp hc)] at hq
    refine ax_iload_n dX11_within_5 rfl ?_
    refine ax_goto 19 dX11_within_6 (by decide) ?_
    exact ax_ireturn dX11_within_19 rfl hq
theorem c_isYears {x : Int32} (hq : Q (.inl (some (.int (b1 (¬ x < nI 1 ∧ ¬ nI 50 < x))))) h) : X G d mX11_isYears 0 (ax_in 1 [.int x]) [] h Q := by
  refine ax_iload_n dX11_isYears_0 rfl ?_
  refine ax_iconst dX11_isYears_1 (v := nI 1) (by decide) ?_
  refine ax_icmp_lt 15 dX11_isYears_2 (by decide) (fun hc => ?_) (fun hc => ?_)
  · refine ax_iconst dX11_isYears_15 (v := nI 0) (by decide) ?_
    exact ax_zreturn dX11_isYears_16 rfl (Or.inl rfl) (by rw [b1_f (fun q => q.1 hc)] at hq; exact hq)
  · refine ax_iload_n dX11_isYears_5 rfl ?_
    refine ax_bipush dX11_isYears_6 (v := nI 50) (by decide) ?_
    refine ax_icmp_gt 15 dX11_isYears_8 (by decide) (fun hd => ?_) (fun hd => ?_)
    · refine ax_iconst dX11_isYears_15 (v := nI 0) (by decide) ?_
      exact ax_zreturn dX11_isYears_16 rfl (Or.inl rfl) (by rw [b1_f (fun q => q.2 hd)] at hq; exact hq)
    · refine ax_iconst dX11_isYears_11 (v := nI 1) (by decide) ?_
      refine ax_goto 16 dX11_isYears_12 (by decide) ?_
      exact ax_zreturn dX11_isYears_16 rfl (Or.inr rfl) (by rw [b1_t ⟨hc, hd⟩] at hq; exact hq)
variable {dr : Int64} {st pl ro co hl : Int32}
theorem c_isStuff {x : Int32} (e64 : h.2.2 64 = some (eX dr)) (e89 : h.2.2 89 = some (eNet 89 st pl ro co hl)) (hq : Q (.inl (some (.int (b1 (¬ x < 0 ∧ ¬ st ≤ x))))) h) : X G d mX11_isStuff 0 (ax_in 2 [.ref 64, .int x]) [] h Q := by
  refine ax_iload_n dX11_isStuff_0 rfl ?_
  refine ax_if_lt 19 dX11_isStuff_1 (by decide) (fun hc => ?_) (fun hc => ?_)
  · refine ax_iconst dX11_isStuff_19 (v := nI 0) (by decide) ?_
    exact ax_zreturn dX11_isStuff_20 rfl (Or.inl rfl) (by rw [b1_f (fun q => q.1 hc)] at hq; exact hq)
  · refine ax_iload_n dX11_isStuff_4 rfl ?_
    refine ax_aload_n dX11_isStuff_5 rfl ?_
    refine ax_getf dX11_isStuff_6 flX11_39 e64 rfl ?_
    refine ax_getf dX11_isStuff_9 flX11_242 e89 rfl ?_
    refine ax_icmp_ge 19 dX11_isStuff_12 (by decide) (fun hd => ?_) (fun hd => ?_)
    · refine ax_iconst dX11_isStuff_19 (v := nI 0) (by decide) ?_
      exact ax_zreturn dX11_isStuff_20 rfl (Or.inl rfl) (by rw [b1_f (fun q => q.2 hd)] at hq; exact hq)
    · refine ax_iconst dX11_isStuff_15 (v := nI 1) (by decide) ?_
      refine ax_goto 20 dX11_isStuff_16 (by decide) ?_
      exact ax_zreturn dX11_isStuff_20 rfl (Or.inr rfl) (by rw [b1_t ⟨hc, hd⟩] at hq; exact hq)
theorem c_isPlace {x : Int32} (e64 : h.2.2 64 = some (eX dr)) (e89 : h.2.2 89 = some (eNet 89 st pl ro co hl)) (hq : Q (.inl (some (.int (b1 (¬ x < 0 ∧ ¬ pl ≤ x))))) h) : X G d mX11_isPlace 0 (ax_in 2 [.ref 64, .int x]) [] h Q := by
  refine ax_iload_n dX11_isPlace_0 rfl ?_
  refine ax_if_lt 19 dX11_isPlace_1 (by decide) (fun hc => ?_) (fun hc => ?_)
  · refine ax_iconst dX11_isPlace_19 (v := nI 0) (by decide) ?_
    exact ax_zreturn dX11_isPlace_20 rfl (Or.inl rfl) (by rw [b1_f (fun q => q.1 hc)] at hq; exact hq)
  · refine ax_iload_n dX11_isPlace_4 rfl ?_
    refine ax_aload_n dX11_isPlace_5 rfl ?_
    refine ax_getf dX11_isPlace_6 flX11_39 e64 rfl ?_
    refine ax_getf dX11_isPlace_9 flX11_295 e89 rfl ?_
    refine ax_icmp_ge 19 dX11_isPlace_12 (by decide) (fun hd => ?_) (fun hd => ?_)
    · refine ax_iconst dX11_isPlace_19 (v := nI 0) (by decide) ?_
      exact ax_zreturn dX11_isPlace_20 rfl (Or.inl rfl) (by rw [b1_f (fun q => q.2 hd)] at hq; exact hq)
    · refine ax_iconst dX11_isPlace_15 (v := nI 1) (by decide) ?_
      refine ax_goto 20 dX11_isPlace_16 (by decide) ?_
      exact ax_zreturn dX11_isPlace_20 rfl (Or.inr rfl) (by rw [b1_t ⟨hc, hd⟩] at hq; exact hq)
theorem c_isRoad {x : Int32} (e64 : h.2.2 64 = some (eX dr)) (e89 : h.2.2 89 = some (eNet 89 st pl ro co hl)) (hq : Q (.inl (some (.int (b1 (¬ x < 0 ∧ ¬ ro ≤ x))))) h) : X G d mX11_isRoad 0 (ax_in 2 [.ref 64, .int x]) [] h Q := by
  refine ax_iload_n dX11_isRoad_0 rfl ?_
  refine ax_if_lt 19 dX11_isRoad_1 (by decide) (fun hc => ?_) (fun hc => ?_)
  · refine ax_iconst dX11_isRoad_19 (v := nI 0) (by decide) ?_
    exact ax_zreturn dX11_isRoad_20 rfl (Or.inl rfl) (by rw [b1_f (fun q => q.1 hc)] at hq; exact hq)
  · refine ax_iload_n dX11_isRoad_4 rfl ?_
    refine ax_aload_n dX11_isRoad_5 rfl ?_
    refine ax_getf dX11_isRoad_6 flX11_39 e64 rfl ?_
    refine ax_getf dX11_isRoad_9 flX11_279 e89 rfl ?_
    refine ax_icmp_ge 19 dX11_isRoad_12 (by decide) (fun hd => ?_) (fun hd => ?_)
    · refine ax_iconst dX11_isRoad_19 (v := nI 0) (by decide) ?_
      exact ax_zreturn dX11_isRoad_20 rfl (Or.inl rfl) (by rw [b1_f (fun q => q.2 hd)] at hq; exact hq)
    · refine ax_iconst dX11_isRoad_15 (v := nI 1) (by decide) ?_
      refine ax_goto 20 dX11_isRoad_16 (by decide) ?_
      exact ax_zreturn dX11_isRoad_20 rfl (Or.inr rfl) (by rw [b1_t ⟨hc, hd⟩] at hq; exact hq)
theorem c_isTrade {x tm : Int32} (e64 : h.2.2 64 = some (eX dr)) (e89 : h.2.2 89 = some (eNet 89 st pl ro co hl)) (e98 : h.2.2 98 = some (eTr 98 tm)) (hq : Q (.inl (some (.int (b1 (¬ x < 0 ∧ ¬ tm ≤ x))))) h) : X G d mX11_isTrade 0 (ax_in 2 [.ref 64, .int x]) [] h Q := by
  refine ax_iload_n dX11_isTrade_0 rfl ?_
  refine ax_if_lt 22 dX11_isTrade_1 (by decide) (fun hc => ?_) (fun hc => ?_)
  · refine ax_iconst dX11_isTrade_22 (v := nI 0) (by decide) ?_
    exact ax_zreturn dX11_isTrade_23 rfl (Or.inl rfl) (by rw [b1_f (fun q => q.1 hc)] at hq; exact hq)
  · refine ax_iload_n dX11_isTrade_4 rfl ?_
    refine ax_aload_n dX11_isTrade_5 rfl ?_
    refine ax_getf dX11_isTrade_6 flX11_39 e64 rfl ?_
    refine ax_getf dX11_isTrade_9 flX11_164 e89 rfl ?_
    refine ax_getf dX11_isTrade_12 flX11_251 e98 rfl ?_
    refine ax_icmp_ge 22 dX11_isTrade_15 (by decide) (fun hd => ?_) (fun hd => ?_)
    · refine ax_iconst dX11_isTrade_22 (v := nI 0) (by decide) ?_
      exact ax_zreturn dX11_isTrade_23 rfl (Or.inl rfl) (by rw [b1_f (fun q => q.2 hd)] at hq; exact hq)
    · refine ax_iconst dX11_isTrade_18 (v := nI 1) (by decide) ?_
      refine ax_goto 23 dX11_isTrade_19 (by decide) ?_
      exact ax_zreturn dX11_isTrade_23 rfl (Or.inr rfl) (by rw [b1_t ⟨hc, hd⟩] at hq; exact hq)
/-- Arrays.fill(int[], int) -/
theorem c_fill {k n : Nat} {f : Nat → Int32} {v : Int32} (hn : n < 2 ^ 31) (ek : h.2.2 k = some (eI n f)) (hq : Q (.inl none) (ax_wr h k (eI n (fl n (fun _ => v) f)))) : X G d mJ7_fill_53178 0 (ax_in 4 [.ref k, .int v]) [] h Q := by
  refine ax_iconst dJ7_fill_53178_0 (v := nI 0) (by decide) ?_
  refine ax_istore_n dJ7_fill_53178_1 (Nat.le_of_ble_eq_true rfl) ?_
  refine ax_aload_n dJ7_fill_53178_2 rfl ?_
  refine ax_alen dJ7_fill_53178_3 ek (by decide) rfl ?_
  refine ax_istore_n dJ7_fill_53178_4 (Nat.le_of_ble_eq_true rfl) ?_
  have loop : ∀ m i : Nat, i + m = n → X G d mJ7_fill_53178 5 [some (.ref k), some (.int v), some (.int (nI i)), some (.int (nI n))] [] (ax_wr h k (eI n (fl i (fun _ => v) f))) Q := by
    intro m
    induction m with
    | zero =>
      intro i hi
      refine ax_iload_n dJ7_fill_53178_5 rfl ?_
      refine ax_iload_n dJ7_fill_53178_6 rfl ?_
      refine ax_icmp_geT 20 dJ7_fill_53178_7 (by decide) (by rw [show i = n by omega]; exact Int32.le_refl _) ?_
      exact ax_return dJ7_fill_53178_20 rfl (by rw [show i = n by omega]; exact hq)
    | succ m ih =>
      intro i hi
      refine ax_iload_n dJ7_fill_53178_5 rfl ?_
      refine ax_iload_n dJ7_fill_53178_6 rfl ?_
      refine ax_icmp_geF 20 dJ7_fill_53178_7 (by decide) (nI_ge (by omega) hn) ?_
      refine ax_aload_n dJ7_fill_53178_10 rfl ?_
      refine ax_iload_n dJ7_fill_53178_11 rfl ?_
      refine ax_iload_n dJ7_fill_53178_12 rfl ?_
      refine ax_iast dJ7_fill_53178_13 ax_wr_eq (ax_ix_nI (by omega) hn) ?_
      rw [ax_wr_wr]
      refine ax_iinc dJ7_fill_53178_14 rfl (ax_inc 1) ?_
      refine ax_goto 5 dJ7_fill_53178_17 (by decide) ?_
      rw [nI_add, fl_s rfl]
      exact ih (i + 1) (by omega)
  have := loop n 0 (by omega)
  rw [fl_0, ax_wr_id ek] at this
  exact this
end LEAF
