section MA2
variable {G : ax_G} {d : Nat} {h : ax_H} {Q : ax_O → ax_H → Prop} {N : Nt} {σ τ : Sd}
variable {th ta si pt fa co nm rd ask nw os sw bc bm : Int32} {gg : Int64} {F S S0 O A : Nat → Int32}
/-- a block of the model's state laid over another -/
def cpB (S : Nat → Int32) (a b n : Nat) : Nat → Int32 := fun j => if 2140 * b ≤ j ∧ j < 2140 * b + n then S (2140 * a + (j - 2140 * b)) else S j
theorem k_copies {a b n : Nat} (ha : a < 6) (hb : b < 6) (hab : a ≠ b) (hn : n ≤ 2140) (e145 : h.2.2 145 = some (eM th ta si pt fa co nm rd ask nw os sw bc bm gg)) (e159 : h.2.2 159 = some (eI 12840 S)) (hq : Q (.inl none) (ax_wr h 159 (eI 12840 (cpB S a b n)))) : X G d mX12_copies 0 (ax_in 5 [.ref 145, .int (nI a), .int (nI b), .int (nI n)]) [] h Q := by
  have loop : ∀ (m i : Nat), i + m = n → X G d mX12_copies 3 [some (.ref 145), some (.int (nI a)), some (.int (nI b)), some (.int (nI n)), some (.int (nI i))] [] (ax_wr h 159 (eI 12840 (cpB S a b i))) Q := by
    intro m
    induction m with
    | zero =>
      intro i hi
      obtain rfl : i = n := by omega
      refine ax_iload dX12_copies_3 rfl ?_
      refine ax_iload_n dX12_copies_5 rfl ?_
      refine ax_icmp_geT 41 dX12_copies_6 (by decide) (Int32.le_refl _) ?_
      exact ax_return dX12_copies_41 rfl hq
    | succ m ih =>
      intro i hi
      refine ax_iload dX12_copies_3 rfl ?_
      refine ax_iload_n dX12_copies_5 rfl ?_
      refine ax_icmp_geF 41 dX12_copies_6 (by decide) (nI_ge (by omega) (by omega)) ?_
      refine ax_aload_n dX12_copies_9 rfl ?_
      refine ax_getf dX12_copies_10 flX12_99 ((ax_wr_ne (by decide)).trans (e145)) rfl ?_
      refine ax_sipush dX12_copies_13 (v := nI 2140) (by decide) ?_
      refine ax_iload_n dX12_copies_16 rfl ?_
      refine ax_imul dX12_copies_17 ?_
      refine ax_iload dX12_copies_18 rfl ?_
      refine ax_iadd dX12_copies_20 ?_
      rw [pk_mul 2140 b, nI_add (2140 * b) i]
      refine ax_aload_n dX12_copies_21 rfl ?_
      refine ax_getf dX12_copies_22 flX12_99 ((ax_wr_ne (by decide)).trans (e145)) rfl ?_
      refine ax_sipush dX12_copies_25 (v := nI 2140) (by decide) ?_
      refine ax_iload_n dX12_copies_28 rfl ?_
      refine ax_imul dX12_copies_29 ?_
      refine ax_iload dX12_copies_30 rfl ?_
      refine ax_iadd dX12_copies_32 ?_
      rw [pk_mul 2140 a, nI_add (2140 * a) i]
      refine ax_iald dX12_copies_33 ax_wr_eq (ax_ix_nI (j := 2140 * a + i) (by omega) (by decide)) ?_
      refine ax_iast dX12_copies_34 ax_wr_eq (ax_ix_nI (j := 2140 * b + i) (by omega) (by decide)) ?_
      rw [ax_wr_wr]
      refine ax_iinc dX12_copies_35 rfl (ax_inc 1) ?_
      refine ax_goto 3 dX12_copies_38 (by decide) ?_
      rw [nI_add i 1]
      have e : upd (cpB S a b i) (2140 * b + i) (cpB S a b i (2140 * a + i)) = cpB S a b (i + 1) := funext fun j => by
        have e1 : cpB S a b i (2140 * a + i) = S (2140 * a + i) := if_neg (by omega)
        rw [e1]
        by_cases hj : j = 2140 * b + i
        · rw [hj, pk_us]
          unfold cpB
          rw [if_pos ⟨by omega, by omega⟩, Nat.add_sub_cancel_left]
        · rw [pk_un hj]
          unfold cpB
          by_cases hc : 2140 * b ≤ j ∧ j < 2140 * b + i
          · rw [if_pos hc, if_pos ⟨hc.1, by omega⟩]
          · rw [if_neg hc, if_neg (by omega)]
      rw [e]
      exact ih (i + 1) (by omega)
  refine ax_iconst dX12_copies_0 (v := nI 0) (by decide) ?_
  refine ax_istore dX12_copies_1 (Nat.le_of_ble_eq_true rfl) ?_
  have key := loop n 0 (by omega)
  have e : cpB S a b 0 = S := funext fun j => if_neg (by omega)
  rw [e, ax_wr_id e159] at key
  exact key
/-- a trial of the model -/
def TrI (h : ax_H) (S0 S F O A : Nat → Int32) (N : Nt) (τ : Sd) : Prop := MC h F S O A ∧ MR h ∧ Sb S N τ ∧ Sc S (nS N) (τ 5) (τ 6) (τ 4) ∧ (∀ j, 133 ≤ j → j < 10700 → S j = S0 j) ∧ (∀ j, j < 133 → S (10700 + j) = S0 j)
theorem MR.kept {h' : ax_H} (a : MR h) (hk : ∀ j, 161 ≤ j → j ≤ 166 → h'.2.2 j = h.2.2 j) : MR h' := by
  obtain ⟨a1, a2, a3, a4, a5, a6⟩ := a
  exact ⟨a1.kept (hk _ (by omega) (by omega)), a2.kept (hk _ (by omega) (by omega)), a3.kept (hk _ (by omega) (by omega)), a4.kept (hk _ (by omega) (by omega)), a5.kept (hk _ (by omega) (by omega)), a6.kept (hk _ (by omega) (by omega))⟩
theorem MC.st {h' : ax_H} {S' : Nat → Int32} (a : MC h F S O A) (hk : ∀ j, 151 ≤ j → j ≤ 158 → h'.2.2 j = h.2.2 j) (e : h'.2.2 159 = some (eI 12840 S')) : MC h' F S' O A := by
  obtain ⟨a1, a2, a3, -, a5, a6⟩ := a
  exact ⟨(hk _ (by omega) (by omega)).trans a1, (hk _ (by omega) (by omega)).trans a2, (hk _ (by omega) (by omega)).trans a3, e, a5.kept (hk _ (by omega) (by omega)), a6.kept (hk _ (by omega) (by omega))⟩
theorem Sc.kept {S' : Nat → Int32} {n : Nat} {y5 y6 y4 : Nat → Nat} (hn : n ≤ 5) (hk : ∀ j, 111 ≤ j → j < 128 → S' j = S j) (a : Sc S n y5 y6 y4) : Sc S' n y5 y6 y4 := by
  obtain ⟨a1, a2, a3⟩ := a
  exact ⟨fun t ht => (hk _ (by omega) (by omega)).trans (a1 t ht), fun t ht => (hk _ (by omega) (by omega)).trans (a2 t ht), fun s hs => (hk _ (by omega) (by omega)).trans (a3 s hs)⟩
def asP : Nat → Prop := fun j => j = 145 ∨ j = 159
theorem k_aside (hN : nOK N) (hM : MC h F S0 O A) (hR : MR h) (hS : Sb S0 N σ) (hSc : Sc S0 (nS N) (σ 5) (σ 6) (σ 4)) (e145 : h.2.2 145 = some (eM th ta si pt fa co nm rd ask nw os sw bc bm gg))
    (hq : ∀ h' S, But h h' asP → h'.2.2 145 = some (eM th ta si pt fa co nm rd 1 nw os sw bc bm gg) → TrI h' S0 S F O A N σ → (∀ j, j < 133 → S j = S0 j) → Q (.inl none) h') : X G (d + 1) mX12_aside 0 (ax_in 1 [.ref 145]) [] h Q := by
  have e159 := hM.2.2.2.1
  refine ax_aload_n dX12_aside_0 rfl ?_
  refine ax_iconst dX12_aside_1 (v := nI 0) (by decide) ?_
  refine ax_iconst dX12_aside_2 (v := nI 5) (by decide) ?_
  refine ax_sipush dX12_aside_3 (v := nI 133) (by decide) ?_
  refine ax_cV dX12_aside_6 mmX12_copies lkX12_262 miX12_copies msX12_copies (ax_recv_of e145 rfl) rfl rfl (Nat.le_of_ble_eq_true rfl) (Nat.le_of_ble_eq_true rfl) rfl rfl (k_copies (a := 0) (b := 5) (n := 133) (by omega) (by omega) (by omega) (by omega) e145 e159 ⟨_, rfl, ?_⟩)
  refine ax_aload_n dX12_aside_9 rfl ?_
  refine ax_iconst dX12_aside_10 (v := nI 1) (by decide) ?_
  refine ax_putf dX12_aside_11 flX12_266 ((ax_wr_ne (by decide)).trans (e145)) (Nat.le_of_ble_eq_true rfl) (nar_b (Or.inr rfl)) ?_
  have lo : ∀ j, j < 10700 → cpB S0 0 5 133 j = S0 j := fun j hj => if_neg (by omega)
  refine ax_return dX12_aside_14 rfl (hq _ (cpB S0 0 5 133) ((But.rf.wr (Or.inr rfl)).wr (Or.inl rfl)) ax_wr_eq ⟨hM.st (fun j z1 z2 => (ax_wr_ne (by omega)).trans (ax_wr_ne (by omega))) ((ax_wr_ne (by decide)).trans ax_wr_eq), hR.kept (fun j z1 z2 => (ax_wr_ne (by omega)).trans (ax_wr_ne (by omega))), hS.kept hN (fun j hj => lo j (by omega)), hSc.kept hN.1 (fun j z1 z2 => lo j (by omega)), fun j z1 z2 => lo j z2, fun j hj => ?_⟩ (fun j hj => lo j (by omega)))
  show cpB S0 0 5 133 (10700 + j) = S0 j
  unfold cpB
  rw [if_pos ⟨by omega, by omega⟩, show 2140 * 0 + (10700 + j - 2140 * 5) = j by omega]
theorem k_back (hI : TrI h S0 S F O A N τ) (e145 : h.2.2 145 = some (eM th ta si pt fa co nm rd ask nw os sw bc bm gg))
    (hq : ∀ h' S', But h h' asP → h'.2.2 145 = some (eM th ta si pt fa co nm rd 0 0 (-1) (-1) bc bm gg) → MC h' F S' O A → MR h' → (∀ j, j < 10700 → S' j = S0 j) → Q (.inl none) h') : X G (d + 1) mX12_back 0 (ax_in 1 [.ref 145]) [] h Q := by
  obtain ⟨hM, hR, -, -, t1', t2'⟩ := hI
  have e159 := hM.2.2.2.1
  refine ax_aload_n dX12_back_0 rfl ?_
  refine ax_iconst dX12_back_1 (v := nI 5) (by decide) ?_
  refine ax_iconst dX12_back_2 (v := nI 0) (by decide) ?_
  refine ax_sipush dX12_back_3 (v := nI 133) (by decide) ?_
  refine ax_cV dX12_back_6 mmX12_copies lkX12_262 miX12_copies msX12_copies (ax_recv_of e145 rfl) rfl rfl (Nat.le_of_ble_eq_true rfl) (Nat.le_of_ble_eq_true rfl) rfl rfl (k_copies (a := 5) (b := 0) (n := 133) (by omega) (by omega) (by omega) (by omega) e145 e159 ⟨_, rfl, ?_⟩)
  refine ax_aload_n dX12_back_9 rfl ?_
  refine ax_iconst dX12_back_10 (v := nI 0) (by decide) ?_
  refine ax_putf dX12_back_11 flX12_266 ((ax_wr_ne (by decide)).trans (e145)) (Nat.le_of_ble_eq_true rfl) (nar_b (Or.inl rfl)) ?_
  refine ax_aload_n dX12_back_14 rfl ?_
  refine ax_iconst dX12_back_15 (v := nI 0) (by decide) ?_
  refine ax_putf dX12_back_16 flX12_270 ax_wr_eq (Nat.le_of_ble_eq_true rfl) (nar_b (Or.inl rfl)) ?_
  rw [ax_wr_wr]
  refine ax_aload_n dX12_back_19 rfl ?_
  refine ax_iconst dX12_back_20 (v := -1) (by decide) ?_
  refine ax_putf dX12_back_21 flX12_106 ax_wr_eq (Nat.le_of_ble_eq_true rfl) (fun _ => ⟨rfl, rfl⟩) ?_
  rw [ax_wr_wr]
  refine ax_aload_n dX12_back_24 rfl ?_
  refine ax_iconst dX12_back_25 (v := -1) (by decide) ?_
  refine ax_putf dX12_back_26 flX12_109 ax_wr_eq (Nat.le_of_ble_eq_true rfl) (fun _ => ⟨rfl, rfl⟩) ?_
  rw [ax_wr_wr]
  refine ax_return dX12_back_29 rfl (hq _ (cpB S 5 0 133) ((But.rf.wr (Or.inr rfl)).wr (Or.inl rfl)) ax_wr_eq (hM.st (fun j z1 z2 => (ax_wr_ne (by omega)).trans (ax_wr_ne (by omega))) ((ax_wr_ne (by decide)).trans ax_wr_eq)) (hR.kept (fun j z1 z2 => (ax_wr_ne (by omega)).trans (ax_wr_ne (by omega)))) (fun j hj => ?_))
  unfold cpB
  by_cases hc : 2140 * 0 ≤ j ∧ j < 2140 * 0 + 133
  · rw [if_pos hc, show 2140 * 5 + (j - 2140 * 0) = 10700 + j by omega]
    exact t2' j (by omega)
  · rw [if_neg hc]
    exact t1' j (by omega) hj
/-- a year of a trial -/
theorem k_tpass {T b y : Nat} {tr : Nat → Nat → Nat} {swo : Option Nat} (htr : trOK N T tr) (hTd : TdI F os T tr) (hT : F 3 + nw = nI T) (hnw : nw = 0 ∨ nw = 1) (hsw : sw = on swo) (hsw2 : ∀ j, swo = some j → j < 100) (hN : nOK N) (hB : Bd N τ b y) (hb1 : b < 100000) (hy : y < 28000) (hF : FnB F N) (hL : FnL F O A N) (hI : TrI h S0 S F O A N τ) (e145 : h.2.2 145 = some (eM th ta si pt fa co nm rd 1 nw os sw bc bm gg))
    (hq : ∀ h' S' bc' bm', But h h' psP → h'.2.2 145 = some (eM th ta si pt fa co nm rd 1 nw os sw bc' bm' gg) → TrI h' S0 S' F O A N (yS N τ 0 tr T swo) → Q (.inl none) h') : X G (d + 11) mX12_passes 0 (ax_in 4 [.ref 145]) [] h Q := by
  obtain ⟨hM, hR, hS, hSc, t1', t2'⟩ := hI
  have hO : sOK N τ := Bd.ok hb1 (Nat.le_of_lt hy) hB
  refine k_passes (d := d) (kp := 0) htr hTd hT hnw hsw hsw2 hN hO hB.2.2.2.1 (by have := hB.2.2.2.2; omega) hF hL hS hSc hM hR e145 (fun h' S' bc' bm' hb e hM' hR' hS' hSc' ht hl => hq h' S' bc' bm' hb e ⟨hM', hR', hS', hSc', fun j z1 z2 => ?_, fun j hj => ?_⟩)
  · rw [hl.1 j z1 (Or.inl (fun q => absurd q.1 (by decide)))]
    exact t1' j z1 z2
  · rw [hl.1 (10700 + j) (by omega) (Or.inl (fun q => absurd q.1 (by decide)))]
    exact t2' j hj
theorem k_allHoles (hN : nOK N) (hO : ∀ r, r < 10 → τ 1 r < 100000) (hF : FnB F N) (hS : Sb S N τ) (e145 : h.2.2 145 = some (eM th ta si pt fa co nm rd ask nw os sw bc bm gg)) (e151 : h.2.2 151 = some (eI 168 F)) (e159 : h.2.2 159 = some (eI 12840 S)) (hq : Q (.inl (some (.int (nI (hT N τ))))) h) : X G (d + 1) mX12_allHoles 0 (ax_in 3 [.ref 145]) [] h Q := by
  have hR := hN.2.2.1
  have f2 := hF.2.2.1
  have s1 := hS.2.1
  have loop : ∀ (m i : Nat), i + m = nR N → X G (d + 1) mX12_allHoles 4 [some (.ref 145), some (.int (nI (sm (fun r => min (τ 1 r) 1000) i))), some (.int (nI i))] [] h Q := by
    intro m
    induction m with
    | zero =>
      intro i hi
      obtain rfl : i = nR N := by omega
      refine ax_iload_n dX12_allHoles_4 rfl ?_
      refine ax_aload_n dX12_allHoles_5 rfl ?_
      refine ax_cV dX12_allHoles_6 mmX12_roads lkX12_194 miX12_roads msX12_roads (ax_recv_of e145 rfl) rfl rfl (Nat.le_of_ble_eq_true rfl) (Nat.le_of_ble_eq_true rfl) rfl rfl (k_roads e145 e151 ⟨_, rfl, ?_⟩)
      rw [f2]
      refine ax_icmp_geT 49 dX12_allHoles_9 (by decide) (Int32.le_refl _) ?_
      refine ax_iload_n dX12_allHoles_49 rfl ?_
      exact ax_ireturn dX12_allHoles_50 rfl hq
    | succ m ih =>
      intro i hi
      have hh := hO i (by omega)
      have nx : ∀ v, v = min (τ 1 i) 1000 → X G (d + 1) mX12_allHoles 41 [some (.ref 145), some (.int (nI (sm (fun r => min (τ 1 r) 1000) i))), some (.int (nI i))] [.int (nI v), .int (nI (sm (fun r => min (τ 1 r) 1000) i))] h Q := by
        intro v hv
        refine ax_iadd dX12_allHoles_41 ?_
        refine ax_istore_n dX12_allHoles_42 (Nat.le_of_ble_eq_true rfl) ?_
        refine ax_iinc dX12_allHoles_43 rfl (ax_inc 1) ?_
        refine ax_goto 4 dX12_allHoles_46 (by decide) ?_
        rw [nI_add (sm (fun r => min (τ 1 r) 1000) i) v, nI_add i 1, hv]
        exact ih (i + 1) (by omega)
      refine ax_iload_n dX12_allHoles_4 rfl ?_
      refine ax_aload_n dX12_allHoles_5 rfl ?_
      refine ax_cV dX12_allHoles_6 mmX12_roads lkX12_194 miX12_roads msX12_roads (ax_recv_of e145 rfl) rfl rfl (Nat.le_of_ble_eq_true rfl) (Nat.le_of_ble_eq_true rfl) rfl rfl (k_roads e145 e151 ⟨_, rfl, ?_⟩)
      rw [f2]
      refine ax_icmp_geF 49 dX12_allHoles_9 (by decide) (nI_ge (by omega) (by omega)) ?_
      refine ax_iload_n dX12_allHoles_12 rfl ?_
      refine ax_aload_n dX12_allHoles_13 rfl ?_
      refine ax_getf dX12_allHoles_14 flX12_99 e145 rfl ?_
      refine ax_iconst dX12_allHoles_17 (v := nI 1) (by decide) ?_
      refine ax_iload_n dX12_allHoles_18 rfl ?_
      refine ax_iadd dX12_allHoles_19 ?_
      rw [nI_add 1 i]
      refine ax_iald dX12_allHoles_20 e159 (ax_ix_nI (j := 1 + i) (by omega) (by decide)) ?_
      rw [s1 i (by omega)]
      by_cases hc : τ 1 i ≤ 1000
      · refine ax_sipush dX12_allHoles_21 (v := nI 1000) (by decide) ?_
        refine ax_icmp_leT 33 dX12_allHoles_24 (by decide) (nI_le hc (by decide)) ?_
        refine ax_aload_n dX12_allHoles_33 rfl ?_
        refine ax_getf dX12_allHoles_34 flX12_99 e145 rfl ?_
        refine ax_iconst dX12_allHoles_37 (v := nI 1) (by decide) ?_
        refine ax_iload_n dX12_allHoles_38 rfl ?_
        refine ax_iadd dX12_allHoles_39 ?_
        rw [nI_add 1 i]
        refine ax_iald dX12_allHoles_40 e159 (ax_ix_nI (j := 1 + i) (by omega) (by decide)) ?_
        rw [s1 i (by omega)]
        exact nx _ (by omega)
      · refine ax_sipush dX12_allHoles_21 (v := nI 1000) (by decide) ?_
        refine ax_icmp_leF 33 dX12_allHoles_24 (by decide) (nI_ge (by omega) (by omega)) ?_
        refine ax_sipush dX12_allHoles_27 (v := nI 1000) (by decide) ?_
        refine ax_goto 41 dX12_allHoles_30 (by decide) ?_
        exact nx 1000 (by omega)
  refine ax_iconst dX12_allHoles_0 (v := nI 0) (by decide) ?_
  refine ax_istore_n dX12_allHoles_1 (Nat.le_of_ble_eq_true rfl) ?_
  refine ax_iconst dX12_allHoles_2 (v := nI 0) (by decide) ?_
  refine ax_istore_n dX12_allHoles_3 (Nat.le_of_ble_eq_true rfl) ?_
  exact loop (nR N) 0 (by omega)
theorem k_worn (hN : nOK N) (hO : ∀ r, r < 10 → τ 1 r < 100000) (hF : FnB F N) (hS : Sb S N τ) (e145 : h.2.2 145 = some (eM th ta si pt fa co nm rd ask nw os sw bc bm gg)) (e151 : h.2.2 151 = some (eI 168 F)) (e159 : h.2.2 159 = some (eI 12840 S)) (hq : Q (.inl (some (.int (nI (wR N τ))))) h) : X G (d + 1) mX12_worn 0 (ax_in 3 [.ref 145]) [] h Q := by
  have hR := hN.2.2.1
  have f2 := hF.2.2.1
  have s1 := hS.2.1
  have loop : ∀ (m i : Nat), i + m = nR N → X G (d + 1) mX12_worn 4 [some (.ref 145), some (.int (nI (sm (fun r => if 1000 ≤ τ 1 r then 1 else 0) i))), some (.int (nI i))] [] h Q := by
    intro m
    induction m with
    | zero =>
      intro i hi
      obtain rfl : i = nR N := by omega
      refine ax_iload_n dX12_worn_4 rfl ?_
      refine ax_aload_n dX12_worn_5 rfl ?_
      refine ax_cV dX12_worn_6 mmX12_roads lkX12_194 miX12_roads msX12_roads (ax_recv_of e145 rfl) rfl rfl (Nat.le_of_ble_eq_true rfl) (Nat.le_of_ble_eq_true rfl) rfl rfl (k_roads e145 e151 ⟨_, rfl, ?_⟩)
      rw [f2]
      refine ax_icmp_geT 34 dX12_worn_9 (by decide) (Int32.le_refl _) ?_
      refine ax_iload_n dX12_worn_34 rfl ?_
      exact ax_ireturn dX12_worn_35 rfl hq
    | succ m ih =>
      intro i hi
      have hh := hO i (by omega)
      have nx : ∀ v, v = (if 1000 ≤ τ 1 i then 1 else 0) → X G (d + 1) mX12_worn 26 [some (.ref 145), some (.int (nI (sm (fun r => if 1000 ≤ τ 1 r then 1 else 0) i))), some (.int (nI i))] [.int (nI v), .int (nI (sm (fun r => if 1000 ≤ τ 1 r then 1 else 0) i))] h Q := by
        intro v hv
        refine ax_iadd dX12_worn_26 ?_
        refine ax_istore_n dX12_worn_27 (Nat.le_of_ble_eq_true rfl) ?_
        refine ax_iinc dX12_worn_28 rfl (ax_inc 1) ?_
        refine ax_goto 4 dX12_worn_31 (by decide) ?_
        rw [nI_add (sm (fun r => if 1000 ≤ τ 1 r then 1 else 0) i) v, nI_add i 1, hv]
        exact ih (i + 1) (by omega)
      refine ax_iload_n dX12_worn_4 rfl ?_
      refine ax_aload_n dX12_worn_5 rfl ?_
      refine ax_cV dX12_worn_6 mmX12_roads lkX12_194 miX12_roads msX12_roads (ax_recv_of e145 rfl) rfl rfl (Nat.le_of_ble_eq_true rfl) (Nat.le_of_ble_eq_true rfl) rfl rfl (k_roads e145 e151 ⟨_, rfl, ?_⟩)
      rw [f2]
      refine ax_icmp_geF 34 dX12_worn_9 (by decide) (nI_ge (by omega) (by omega)) ?_
      refine ax_iload_n dX12_worn_12 rfl ?_
      refine ax_aload_n dX12_worn_13 rfl ?_
      refine ax_iload_n dX12_worn_14 rfl ?_
      refine ax_cV dX12_worn_15 mmX12_isWorn lkX12_311 miX12_isWorn msX12_isWorn (ax_recv_of e145 rfl) rfl rfl (Nat.le_of_ble_eq_true rfl) (Nat.le_of_ble_eq_true rfl) rfl rfl (k_isWorn (by omega) e145 e159 ⟨_, rfl, ?_⟩)
      rw [s1 i (by omega)]
      by_cases hc : 1000 ≤ τ 1 i
      · rw [b1_t (nI_nlt hc (by omega))]
        refine ax_if_eqF 25 dX12_worn_18 (by decide) (by decide) ?_
        refine ax_iconst dX12_worn_21 (v := nI 1) (by decide) ?_
        refine ax_goto 26 dX12_worn_22 (by decide) ?_
        exact nx 1 (by rw [if_pos hc])
      · rw [b1_f (fun q => q (nI_lt (by omega) (by omega)))]
        refine ax_if_eqT 25 dX12_worn_18 (by decide) rfl ?_
        refine ax_iconst dX12_worn_25 (v := nI 0) (by decide) ?_
        exact nx 0 (by rw [if_neg hc])
  refine ax_iconst dX12_worn_0 (v := nI 0) (by decide) ?_
  refine ax_istore_n dX12_worn_1 (Nat.le_of_ble_eq_true rfl) ?_
  refine ax_iconst dX12_worn_2 (v := nI 0) (by decide) ?_
  refine ax_istore_n dX12_worn_3 (Nat.le_of_ble_eq_true rfl) ?_
  exact loop (nR N) 0 (by omega)
end MA2
