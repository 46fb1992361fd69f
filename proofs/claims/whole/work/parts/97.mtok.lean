/-! ===== the tokens of both: what they are to each other (pure) ===== -/
section MTK
def bval (b : Nat) : List Nat → Nat
  | [] => 0
  | x :: l => b * bval b l + x
theorem bval_inj {b : Nat} : ∀ (l l' : List Nat), (∀ x ∈ l, 1 ≤ x ∧ x < b) → (∀ x ∈ l', 1 ≤ x ∧ x < b) → bval b l = bval b l' → l = l'
  | [], [], _, _, _ => rfl
  | [], y :: l', _, h2, e => by
    have := (h2 y List.mem_cons_self).1
    have e' : 0 = b * bval b l' + y := e
    omega
  | x :: l, [], h1, _, e => by
    have := (h1 x List.mem_cons_self).1
    have e' : b * bval b l + x = 0 := e
    omega
  | x :: l, y :: l', h1, h2, e => by
    obtain ⟨x1, x2⟩ := h1 x List.mem_cons_self
    obtain ⟨y1, y2⟩ := h2 y List.mem_cons_self
    have e' : b * bval b l + x = b * bval b l' + y := e
    have ex : x = y := by
      have a1 : (b * bval b l + x) % b = x := by rw [Nat.mul_add_mod, Nat.mod_eq_of_lt x2]
      have a2 : (b * bval b l' + y) % b = y := by rw [Nat.mul_add_mod, Nat.mod_eq_of_lt y2]
      rw [← a1, ← a2, e']
    subst ex
    have el : bval b l = bval b l' := Nat.eq_of_mul_eq_mul_left (show 0 < b by omega) (by omega)
    rw [bval_inj l l' (fun q hq => h1 q (List.mem_cons_of_mem _ hq)) (fun q hq => h2 q (List.mem_cons_of_mem _ hq)) el]
theorem fold_bval {b : Nat} : ∀ (w : List Nat), (w.foldr (fun c v => b * v + (c - 96)) 0) = bval b (w.map (fun c => c - 96))
  | [] => rfl
  | c :: w => by
    show b * _ + (c - 96) = b * _ + (c - 96)
    rw [fold_bval w]
def w5 (w : List Nat) : Nat := w.foldl (fun v c => 32 * v + (c - 96)) 0
theorem w5_b (w : List Nat) : w5 w = bval 32 (w.reverse.map (fun c => c - 96)) := by
  unfold w5
  rw [← fold_bval, List.foldr_reverse]
theorem wv_b (w : List Nat) : wv w = bval 37 (w.reverse.map (fun c => c - 96)) := by
  unfold wv
  rw [← fold_bval, List.foldr_reverse]
def isLs (w : List Nat) : Prop := ∀ c ∈ w, isL c = true
theorem dig_inj : ∀ {w w' : List Nat}, isLs w → isLs w' → w.map (fun c => c - 96) = w'.map (fun c => c - 96) → w = w'
  | [], [], _, _, _ => rfl
  | [], _ :: _, _, _, e => by cases e
  | _ :: _, [], _, _, e => by cases e
  | c :: w, c' :: w', h1, h2, e => by
    have a1 := of_decide_eq_true (h1 c List.mem_cons_self)
    have a2 := of_decide_eq_true (h2 c' List.mem_cons_self)
    rw [List.map_cons, List.map_cons] at e
    injection e with e1 e2
    rw [show c = c' by omega, dig_inj (fun q hq => h1 q (List.mem_cons_of_mem _ hq)) (fun q hq => h2 q (List.mem_cons_of_mem _ hq)) e2]
theorem rev_dig {w : List Nat} {b : Nat} (hb : 27 ≤ b) (h : isLs w) : ∀ x ∈ w.reverse.map (fun c => c - 96), 1 ≤ x ∧ x < b := by
  intro x hx
  obtain ⟨c, hc, rfl⟩ := List.mem_map.mp hx
  have := of_decide_eq_true (h c (List.mem_reverse.mp hc))
  omega
theorem rev_ls {w : List Nat} (h : isLs w) : isLs w.reverse := fun c hc => h c (List.mem_reverse.mp hc)
theorem w5_inj {w w' : List Nat} (h : isLs w) (h' : isLs w') (e : w5 w = w5 w') : w = w' := by
  rw [w5_b, w5_b] at e
  exact List.reverse_inj.mp (dig_inj (rev_ls h) (rev_ls h') (bval_inj _ _ (rev_dig (by omega) h) (rev_dig (by omega) h') e))
theorem wv_inj {w w' : List Nat} (h : isLs w) (h' : isLs w') (e : wv w = wv w') : w = w' := by
  rw [wv_b, wv_b] at e
  exact List.reverse_inj.mp (dig_inj (rev_ls h) (rev_ls h') (bval_inj _ _ (rev_dig (by omega) h) (rev_dig (by omega) h') e))
theorem bval_lt {b : Nat} : ∀ (l : List Nat), (∀ x ∈ l, x < b) → bval b l + 1 ≤ b ^ l.length
  | [], _ => by show 0 + 1 ≤ 1; omega
  | x :: l, h => by
    have h1 := bval_lt l (fun q hq => h q (List.mem_cons_of_mem _ hq))
    have h2 := h x List.mem_cons_self
    show b * bval b l + x + 1 ≤ b ^ (l.length + 1)
    rw [Nat.pow_succ, Nat.mul_comm (b ^ l.length) b]
    have := Nat.mul_le_mul_left b h1
    rw [Nat.mul_add] at this
    omega
theorem w5_lt {w : List Nat} (h : isLs w) (hl : w.length ≤ 8) : w5 w < 2 ^ 40 := by
  have h1 := bval_lt (b := 32) (w.reverse.map (fun c => c - 96)) (fun x hx => (rev_dig (by omega) h x hx).2)
  rw [← w5_b, List.length_map, List.length_reverse] at h1
  have h2 : 32 ^ w.length ≤ 32 ^ 8 := Nat.pow_le_pow_right (by decide) hl
  omega
theorem wv_lt {w : List Nat} (h : isLs w) (hl : w.length ≤ 8) : wv w < 2 ^ 50 := by
  have h1 := bval_lt (b := 37) (w.reverse.map (fun c => c - 96)) (fun x hx => (rev_dig (by omega) h x hx).2)
  rw [← wv_b, List.length_map, List.length_reverse] at h1
  have h2 : 37 ^ w.length ≤ 37 ^ 8 := Nat.pow_le_pow_right (by decide) hl
  omega
theorem lN_bv {v : Nat} (h : v < 2 ^ 64) : (lN v).toBitVec.toNat = v := by
  show (BitVec.ofNat 64 v).toNat = v
  rw [BitVec.toNat_ofNat, Nat.mod_eq_of_lt h]
theorem lgr_nat {v c : Nat} (hv : v < 2 ^ 58) (hc : isL c = true) : lgr (lN v) c = lN (32 * v + (c - 96)) := by
  have hc2 := of_decide_eq_true hc
  unfold lgr
  rw [if_pos hc2, show nI c - nI 97 + nI 1 = nI (c - 96) from by rw [pk_sub (by omega), nI_add]; congr 1; omega, nI_l (n := c - 96) (by omega)]
  apply Int64.toBitVec_inj.mp
  apply BitVec.eq_of_toNat_eq
  rw [lN_bv (by omega)]
  show ((lN v).toBitVec <<< (((nI 5).toInt64 &&& 63).toBitVec.smod 64) ||| (lN (c - 96)).toBitVec).toNat = _
  rw [show ((nI 5).toInt64 &&& 63).toBitVec.smod 64 = (5 : BitVec 64) from by decide +kernel]
  rw [BitVec.toNat_or, lN_bv (v := c - 96) (by omega), show ((lN v).toBitVec <<< (5 : BitVec 64)) = (lN v).toBitVec <<< 5 from rfl, BitVec.toNat_shiftLeft, lN_bv (by omega), Nat.shiftLeft_eq, Nat.mod_eq_of_lt (by omega), ← Nat.shiftLeft_eq, ← Nat.shiftLeft_add_eq_or_of_lt (by omega), Nat.shiftLeft_eq]
  omega
theorem wkey_fold : ∀ (w u : List Nat), isLs (u ++ w) → (u ++ w).length ≤ 8 → w.foldl lgr (lN (w5 u)) = lN (w5 (u ++ w))
  | [], u, _, _ => by rw [List.append_nil]; rfl
  | c :: w, u, h, hl => by
    have hu : isLs u := fun q hq => h q (List.mem_append_left _ hq)
    rw [List.length_append, List.length_cons] at hl
    have := w5_lt hu (by omega)
    show w.foldl lgr (lgr (lN (w5 u)) c) = _
    rw [lgr_nat (by omega) (h c (List.mem_append_right _ List.mem_cons_self))]
    have e : 32 * w5 u + (c - 96) = w5 (u ++ [c]) := by unfold w5; rw [List.foldl_append]; rfl
    have e2 : u ++ c :: w = (u ++ [c]) ++ w := by rw [List.append_assoc]; rfl
    rw [e, e2]
    rw [e2] at h
    exact wkey_fold w (u ++ [c]) h (by rw [← e2, List.length_append, List.length_cons]; omega)
theorem wkey_5 {w : List Nat} (h : isLs w) (hl : w.length ≤ 8) : wkey w = lN (w5 w) := wkey_fold w [] h hl
/-- the model's words: their signs, and the class's constant -/
def KWl : List (List Nat) := [[115,116,117,102,102], [104,97,114,100], [115,111,102,116], [112,108,97,99,101], [114,111,97,100], [108,111,110,103], [104,111,108,101,115], [116,114,97,100,101], [111,102], [108,111,97,100], [119,97,121], [115,104,111,99,107], [109,101,110,100], [110,111,116], [97,110,100], [111,114], [98,114,105,116,116,108,101], [108,111,115,116], [115,116,114,111,110,103]]
def KW (k : Nat) : List Nat := KWl.getD k []
def kwK (k : Nat) : Nat := [15, 25, 26, 16, 17, 23, 24, 18, 19, 27, 20, 21, 22, 14, 12, 13, 28, 29, 30].getD k 0
theorem KW_ls : ∀ k, k < 19 → isLs (KW k) ∧ (KW k).length ≤ 8 ∧ 12 ≤ kwK k ∧ kwK k < 31 ∧ tk_key.getD (kwK k) 0 = wkey (KW k) ∧ kof (wkey (KW k)) = kwK k := by
  intro k hk
  have h1 : ∀ k : Nat, k < 19 → (∀ c ∈ KW k, isL c = true) ∧ (KW k).length ≤ 8 ∧ 12 ≤ kwK k ∧ kwK k < 31 ∧ tk_key.getD (kwK k) 0 = wkey (KW k) ∧ kof (wkey (KW k)) = kwK k := by decide +kernel
  exact h1 k hk
/-- a word and the class's constant of it -/
theorem kof_word {w : List Nat} (h : isLs w) (hl : w.length ≤ 8) (h0 : w ≠ []) : (kof (wkey w) = 3 ∨ 12 ≤ kof (wkey w)) ∧ ∀ k, k < 19 → (wv w = wv (KW k) ↔ kof (wkey w) = kwK k) := by
  have hp : 0 < w5 w := by
    rcases Nat.eq_zero_or_pos (w5 w) with q | q
    · exact absurd (w5_inj (w' := []) h (fun _ z => by cases z) q) h0
    · exact q
  have hlt := w5_lt h hl
  have hkey := wkey_5 h hl
  have hfound : ∀ i, kof (wkey w) = i → i ≠ 1 → i ≠ 3 → tk_key.getD i 0 = wkey w := by
    intro i hi h1 h3
    unfold kof at hi
    split at hi
    · rename_i j hj
      subst hi
      exact eq_of_beq (fst_lt hj).2.2
    · split at hi
      · exact absurd hi.symm h1
      · exact absurd hi.symm h3
  have hn1 : kof (wkey w) ≠ 1 ∧ (kof (wkey w) = 3 ∨ 12 ≤ kof (wkey w)) := by
    have hneg : ∀ i : Nat, i < 12 → tk_key.getD i 0 ≤ lN 0 := by decide +kernel
    unfold kof
    split
    · rename_i j hj
      have e : tk_key.getD j 0 = wkey w := eq_of_beq (fst_lt hj).2.2
      have : ¬ j < 12 := fun q => by
        have := hneg j q
        rw [e, hkey] at this
        exact absurd ((pk_lLT (by omega) (by omega)).mpr hp) (Int64.not_lt.mpr this)
      exact ⟨by omega, Or.inr (by omega)⟩
    · rw [if_neg (fun q => by
        rw [hkey] at q
        unfold lg_cmp at q
        rw [if_pos (show lN (w5 w) > 0 from (pk_lLT (a := 0) (by omega) (by omega)).mpr hp)] at q
        exact absurd q (by decide))]
      exact ⟨by omega, Or.inl rfl⟩
  refine ⟨hn1.2, fun k hk => ?_⟩
  obtain ⟨k1, k2, k3, k4, k5, k6⟩ := KW_ls k hk
  constructor
  · intro e
    rw [wv_inj h k1 e]
    exact k6
  · intro e
    have e1 := hfound _ e (by omega) (by omega)
    rw [k5, hkey, wkey_5 k1 k2] at e1
    rw [w5_inj k1 h ((pk_lEQ (by have := w5_lt k1 k2; omega) (by omega)).mp e1)]
end MTK
