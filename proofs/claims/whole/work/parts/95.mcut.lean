/-! ===== the model: its tape is cut ===== -/
section MCU
variable {G : ax_G} {d : Nat} {h : ax_H} {Q : ax_O → ax_H → Prop}
variable {th ta si pt fa co nm rd ask nw os sw bc bm : Int32} {gg : Int64}
theorem k_isLetter {c : Nat} (hc : c < 2 ^ 20) (hq : Q (.inl (some (.int (b1 (isL c = true))))) h) : X G d mX12_isLetter 0 (ax_in 1 [.int (nI c)]) [] h Q := by
  by_cases h1 : 97 ≤ c
  · refine ax_iload_n dX12_isLetter_0 rfl ?_
    refine ax_bipush dX12_isLetter_1 (v := nI 97) (by decide) ?_
    refine ax_icmp_ltF 16 dX12_isLetter_3 (by decide) (nI_nlt h1 (by omega)) ?_
    by_cases h2 : c ≤ 122
    · rw [b1_t (decide_eq_true ⟨h1, h2⟩)] at hq
      refine ax_iload_n dX12_isLetter_6 rfl ?_
      refine ax_bipush dX12_isLetter_7 (v := nI 122) (by decide) ?_
      refine ax_icmp_gtF 16 dX12_isLetter_9 (by decide) (nI_nlt h2 (by omega)) ?_
      refine ax_iconst dX12_isLetter_12 (v := nI 1) (by decide) ?_
      refine ax_goto 17 dX12_isLetter_13 (by decide) ?_
      exact ax_zreturn dX12_isLetter_17 rfl (Or.inr rfl) hq
    · rw [b1_f (fun q => h2 (of_decide_eq_true q).2)] at hq
      refine ax_iload_n dX12_isLetter_6 rfl ?_
      refine ax_bipush dX12_isLetter_7 (v := nI 122) (by decide) ?_
      refine ax_icmp_gtT 16 dX12_isLetter_9 (by decide) (nI_lt (by omega) (by omega)) ?_
      refine ax_iconst dX12_isLetter_16 (v := nI 0) (by decide) ?_
      exact ax_zreturn dX12_isLetter_17 rfl (Or.inl rfl) hq
  · rw [b1_f (fun q => h1 (of_decide_eq_true q).1)] at hq
    refine ax_iload_n dX12_isLetter_0 rfl ?_
    refine ax_bipush dX12_isLetter_1 (v := nI 97) (by decide) ?_
    refine ax_icmp_ltT 16 dX12_isLetter_3 (by decide) (nI_lt (by omega) (by omega)) ?_
    refine ax_iconst dX12_isLetter_16 (v := nI 0) (by decide) ?_
    exact ax_zreturn dX12_isLetter_17 rfl (Or.inl rfl) hq
theorem k_isDigit {c : Nat} (hc : c < 2 ^ 20) (hq : Q (.inl (some (.int (b1 (isD c = true))))) h) : X G d mX12_isDigit 0 (ax_in 1 [.int (nI c)]) [] h Q := by
  by_cases h1 : 48 ≤ c
  · refine ax_iload_n dX12_isDigit_0 rfl ?_
    refine ax_bipush dX12_isDigit_1 (v := nI 48) (by decide) ?_
    refine ax_icmp_ltF 16 dX12_isDigit_3 (by decide) (nI_nlt h1 (by omega)) ?_
    by_cases h2 : c ≤ 57
    · rw [b1_t (decide_eq_true ⟨h1, h2⟩)] at hq
      refine ax_iload_n dX12_isDigit_6 rfl ?_
      refine ax_bipush dX12_isDigit_7 (v := nI 57) (by decide) ?_
      refine ax_icmp_gtF 16 dX12_isDigit_9 (by decide) (nI_nlt h2 (by omega)) ?_
      refine ax_iconst dX12_isDigit_12 (v := nI 1) (by decide) ?_
      refine ax_goto 17 dX12_isDigit_13 (by decide) ?_
      exact ax_zreturn dX12_isDigit_17 rfl (Or.inr rfl) hq
    · rw [b1_f (fun q => h2 (of_decide_eq_true q).2)] at hq
      refine ax_iload_n dX12_isDigit_6 rfl ?_
      refine ax_bipush dX12_isDigit_7 (v := nI 57) (by decide) ?_
      refine ax_icmp_gtT 16 dX12_isDigit_9 (by decide) (nI_lt (by omega) (by omega)) ?_
      refine ax_iconst dX12_isDigit_16 (v := nI 0) (by decide) ?_
      exact ax_zreturn dX12_isDigit_17 rfl (Or.inl rfl) hq
  · rw [b1_f (fun q => h1 (of_decide_eq_true q).1)] at hq
    refine ax_iload_n dX12_isDigit_0 rfl ?_
    refine ax_bipush dX12_isDigit_1 (v := nI 48) (by decide) ?_
    refine ax_icmp_ltT 16 dX12_isDigit_3 (by decide) (nI_lt (by omega) (by omega)) ?_
    refine ax_iconst dX12_isDigit_16 (v := nI 0) (by decide) ?_
    exact ax_zreturn dX12_isDigit_17 rfl (Or.inl rfl) hq
theorem k_rank {c : Nat} (hc : c < 2 ^ 20) (hl : isL c = true) (hq : Q (.inl (some (.int (nI (c - 96))))) h) : X G (d + 1) mX12_rank 0 (ax_in 1 [.int (nI c)]) [] h Q := by
  have hl2 := of_decide_eq_true hl
  refine ax_iload_n dX12_rank_0 rfl ?_
  refine ax_cS dX12_rank_1 mmX12_isLetter lkX12_130 mtX12_isLetter rfl rfl (Nat.le_of_ble_eq_true rfl) (Nat.le_of_ble_eq_true rfl) rfl rfl (k_isLetter (d := d) hc ⟨_, rfl, ?_⟩)
  rw [b1_t hl]
  refine ax_if_eqF 14 dX12_rank_4 (by decide) (by decide) ?_
  refine ax_iload_n dX12_rank_7 rfl ?_
  refine ax_bipush dX12_rank_8 (v := nI 96) (by decide) ?_
  refine ax_isub dX12_rank_10 ?_
  rw [pk_sub (a := c) (b := 96) (by omega)]
  refine ax_goto 18 dX12_rank_11 (by decide) ?_
  exact ax_ireturn dX12_rank_18 rfl hq
abbrev isG (c : Nat) : Bool := decide (c = 40 ∨ c = 41 ∨ c = 59 ∨ c = 61 ∨ c = 60 ∨ c = 43 ∨ c = 45 ∨ c = 42)
theorem k_isSignOf {c : Nat} (hc : c < 2 ^ 20) (hq : Q (.inl (some (.int (b1 (isG c = true))))) h) : X G d mX12_isSignOf 0 (ax_in 1 [.int (nI c)]) [] h Q := by
  have yes : isG c = true → X G d mX12_isSignOf 48 [some (.int (nI c))] [] h Q := by
    intro hg
    rw [b1_t hg] at hq
    refine ax_iconst dX12_isSignOf_48 (v := nI 1) (by decide) ?_
    refine ax_goto 53 dX12_isSignOf_49 (by decide) ?_
    exact ax_zreturn dX12_isSignOf_53 rfl (Or.inr rfl) hq
  by_cases h1 : c = 40
  · refine ax_iload_n dX12_isSignOf_0 rfl ?_
    refine ax_bipush dX12_isSignOf_1 (v := nI 40) (by decide) ?_
    refine ax_icmp_eqT 48 dX12_isSignOf_3 (by decide) (by rw [h1]) ?_
    exact yes (decide_eq_true (by omega))
  refine ax_iload_n dX12_isSignOf_0 rfl ?_
  refine ax_bipush dX12_isSignOf_1 (v := nI 40) (by decide) ?_
  refine ax_icmp_eqF 48 dX12_isSignOf_3 (by decide) (fun q => h1 ((nI_eq (by omega) (by omega)).mp q)) ?_
  by_cases h2 : c = 41
  · refine ax_iload_n dX12_isSignOf_6 rfl ?_
    refine ax_bipush dX12_isSignOf_7 (v := nI 41) (by decide) ?_
    refine ax_icmp_eqT 48 dX12_isSignOf_9 (by decide) (by rw [h2]) ?_
    exact yes (decide_eq_true (by omega))
  refine ax_iload_n dX12_isSignOf_6 rfl ?_
  refine ax_bipush dX12_isSignOf_7 (v := nI 41) (by decide) ?_
  refine ax_icmp_eqF 48 dX12_isSignOf_9 (by decide) (fun q => h2 ((nI_eq (by omega) (by omega)).mp q)) ?_
  by_cases h3 : c = 59
  · refine ax_iload_n dX12_isSignOf_12 rfl ?_
    refine ax_bipush dX12_isSignOf_13 (v := nI 59) (by decide) ?_
    refine ax_icmp_eqT 48 dX12_isSignOf_15 (by decide) (by rw [h3]) ?_
    exact yes (decide_eq_true (by omega))
  refine ax_iload_n dX12_isSignOf_12 rfl ?_
  refine ax_bipush dX12_isSignOf_13 (v := nI 59) (by decide) ?_
  refine ax_icmp_eqF 48 dX12_isSignOf_15 (by decide) (fun q => h3 ((nI_eq (by omega) (by omega)).mp q)) ?_
  by_cases h4 : c = 61
  · refine ax_iload_n dX12_isSignOf_18 rfl ?_
    refine ax_bipush dX12_isSignOf_19 (v := nI 61) (by decide) ?_
    refine ax_icmp_eqT 48 dX12_isSignOf_21 (by decide) (by rw [h4]) ?_
    exact yes (decide_eq_true (by omega))
  refine ax_iload_n dX12_isSignOf_18 rfl ?_
  refine ax_bipush dX12_isSignOf_19 (v := nI 61) (by decide) ?_
  refine ax_icmp_eqF 48 dX12_isSignOf_21 (by decide) (fun q => h4 ((nI_eq (by omega) (by omega)).mp q)) ?_
  by_cases h5 : c = 60
  · refine ax_iload_n dX12_isSignOf_24 rfl ?_
    refine ax_bipush dX12_isSignOf_25 (v := nI 60) (by decide) ?_
    refine ax_icmp_eqT 48 dX12_isSignOf_27 (by decide) (by rw [h5]) ?_
    exact yes (decide_eq_true (by omega))
  refine ax_iload_n dX12_isSignOf_24 rfl ?_
  refine ax_bipush dX12_isSignOf_25 (v := nI 60) (by decide) ?_
  refine ax_icmp_eqF 48 dX12_isSignOf_27 (by decide) (fun q => h5 ((nI_eq (by omega) (by omega)).mp q)) ?_
  by_cases h6 : c = 43
  · refine ax_iload_n dX12_isSignOf_30 rfl ?_
    refine ax_bipush dX12_isSignOf_31 (v := nI 43) (by decide) ?_
    refine ax_icmp_eqT 48 dX12_isSignOf_33 (by decide) (by rw [h6]) ?_
    exact yes (decide_eq_true (by omega))
  refine ax_iload_n dX12_isSignOf_30 rfl ?_
  refine ax_bipush dX12_isSignOf_31 (v := nI 43) (by decide) ?_
  refine ax_icmp_eqF 48 dX12_isSignOf_33 (by decide) (fun q => h6 ((nI_eq (by omega) (by omega)).mp q)) ?_
  by_cases h7 : c = 45
  · refine ax_iload_n dX12_isSignOf_36 rfl ?_
    refine ax_bipush dX12_isSignOf_37 (v := nI 45) (by decide) ?_
    refine ax_icmp_eqT 48 dX12_isSignOf_39 (by decide) (by rw [h7]) ?_
    exact yes (decide_eq_true (by omega))
  refine ax_iload_n dX12_isSignOf_36 rfl ?_
  refine ax_bipush dX12_isSignOf_37 (v := nI 45) (by decide) ?_
  refine ax_icmp_eqF 48 dX12_isSignOf_39 (by decide) (fun q => h7 ((nI_eq (by omega) (by omega)).mp q)) ?_
  by_cases h8 : c = 42
  · refine ax_iload_n dX12_isSignOf_42 rfl ?_
    refine ax_bipush dX12_isSignOf_43 (v := nI 42) (by decide) ?_
    refine ax_icmp_neF 52 dX12_isSignOf_45 (by decide) (by rw [h8]) ?_
    exact yes (decide_eq_true (by omega))
  refine ax_iload_n dX12_isSignOf_42 rfl ?_
  refine ax_bipush dX12_isSignOf_43 (v := nI 42) (by decide) ?_
  refine ax_icmp_neT 52 dX12_isSignOf_45 (by decide) (fun q => h8 ((nI_eq (by omega) (by omega)).mp q)) ?_
  rw [b1_f (fun q => by have := of_decide_eq_true q; omega)] at hq
  refine ax_iconst dX12_isSignOf_52 (v := nI 0) (by decide) ?_
  exact ax_zreturn dX12_isSignOf_53 rfl (Or.inl rfl) hq
/-- the model's word, number, sort and value of a token -/
def wv (w : List Nat) : Nat := w.foldl (fun v c => 37 * v + (c - 96)) 0
def nv (w : List Nat) : Nat := w.foldl (fun v c => 10 * v + c - 48) 0
def mSo (t : TK3) : Nat := if t.2.1 = 0 then (if 8 < t.2.2.length then 4 else 1) else if t.2.1 = 1 then (if 4 < t.2.2.length then 4 else 2) else if isG (t.2.2.headD 0) then 3 else 4
def mVa (t : TK3) : Nat := if t.2.1 = 0 then wv (t.2.2.take 8) else if t.2.1 = 1 then nv (t.2.2.take 4) else t.2.2.headD 0
def tkA (us : List TK3) (j : Nat) : TK3 := us.getD j (0, 0, [])
theorem tkA_app {ts : List TK3} {t : TK3} {j : Nat} (hj : j < ts.length + 1) : tkA (ts ++ [t]) j = if j = ts.length then t else tkA ts j := by
  unfold tkA
  by_cases hc : j = ts.length
  · rw [if_pos hc, List.getD_eq_getElem?_getD, List.getElem?_append_right (by omega), hc, Nat.sub_self]; rfl
  · rw [if_neg hc, List.getD_eq_getElem?_getD, List.getD_eq_getElem?_getD, List.getElem?_append_left (by omega)]
def RwF (f1 f2 : Nat → Int32) (f3 : Nat → Int64) (us : List TK3) : Prop := ∀ j, j < us.length → f1 j = nI (mSo (tkA us j)) ∧ f2 j = nI (tkA us j).1 ∧ f3 j = lN (mVa (tkA us j))
theorem RwF.app {f1 f2 : Nat → Int32} {f3 : Nat → Int64} {us : List TK3} {t : TK3} (a : RwF f1 f2 f3 us) : RwF (upd f1 us.length (nI (mSo t))) (upd f2 us.length (nI t.1)) (vp_updL f3 us.length (lN (mVa t))) (us ++ [t]) := by
  intro j hj
  rw [List.length_append, List.length_singleton] at hj
  rw [tkA_app hj]
  unfold upd vp_updL
  by_cases hc : j = us.length
  · rw [if_pos hc, if_pos hc, if_pos hc, if_pos hc]; exact ⟨rfl, rfl, rfl⟩
  · rw [if_neg hc, if_neg hc, if_neg hc, if_neg hc]; exact a j (by omega)
def cuP : Nat → Prop := fun j => j = 145 ∨ (147 ≤ j ∧ j ≤ 149)
theorem take_app {w : List Nat} {c n : Nat} : (w ++ [c]).take n = if w.length < n then w.take n ++ [c] else w.take n := by
  by_cases hl : w.length < n
  · rw [if_pos hl, List.take_of_length_le (by rw [List.length_append, List.length_singleton]; omega), List.take_of_length_le (by omega)]
  · rw [if_neg hl, List.take_append_of_le_length (by omega)]
theorem wv_app {w : List Nat} {c : Nat} : wv ((w ++ [c]).take 8) = if w.length < 8 then 37 * wv (w.take 8) + (c - 96) else wv (w.take 8) := by
  rw [take_app]
  split
  · unfold wv; rw [List.foldl_append]; rfl
  · rfl
theorem nv_app {w : List Nat} {c : Nat} : nv ((w ++ [c]).take 4) = if w.length < 4 then 10 * nv (w.take 4) + c - 48 else nv (w.take 4) := by
  rw [take_app]
  split
  · unfold nv; rw [List.foldl_append]; rfl
  · rfl
end MCU
