/-! ===== the model: its entry, and its small methods ===== -/
abbrev eM (th ta si pt fa co nm rd ask nw os sw bc bm : Int32) (gg : Int64) : ax_E := .inr (10, [.int th, .ref 146, .int ta, .int si, .ref 147, .ref 148, .ref 149, .int pt, .int fa, .ref 150, .ref 151, .ref 152, .ref 153, .int co, .ref 154, .ref 155, .int nm, .int rd, .ref 156, .ref 157, .ref 158, .ref 159, .ref 160, .int ask, .int nw, .int os, .int sw, .ref 161, .ref 162, .ref 163, .int bc, .int bm, .ref 164, .ref 165, .ref 166, .long gg])
section MO
variable {G : ax_G} {d : Nat} {h : ax_H} {Q : ax_O → ax_H → Prop} {N : Nt} {σ : Sd}
variable {th ta si pt fa co nm rd ask nw os sw bc bm : Int32} {gg : Int64} {F S : Nat → Int32}
theorem k_thrown (e145 : h.2.2 145 = some (eM th ta si pt fa co nm rd ask nw os sw bc bm gg)) (hq : Q (.inl (some (.int th))) h) : X G d mX12_thrown 0 (ax_in 1 [.ref 145]) [] h Q := by
  refine ax_aload_n dX12_thrown_0 rfl ?_
  refine ax_getf dX12_thrown_1 flX12_1 e145 rfl ?_
  exact ax_ireturn dX12_thrown_4 rfl hq
theorem k_stuffs (e145 : h.2.2 145 = some (eM th ta si pt fa co nm rd ask nw os sw bc bm gg)) (e151 : h.2.2 151 = some (eI 168 F)) (hq : Q (.inl (some (.int (F 0)))) h) : X G d mX12_stuffs 0 (ax_in 1 [.ref 145]) [] h Q := by
  refine ax_aload_n dX12_stuffs_0 rfl ?_
  refine ax_getf dX12_stuffs_1 flX12_75 e145 rfl ?_
  refine ax_iconst dX12_stuffs_4 (v := nI 0) (by decide) ?_
  refine ax_iald dX12_stuffs_5 e151 (ax_ix_nI (j := 0) (by decide) (by decide)) ?_
  exact ax_ireturn dX12_stuffs_6 rfl hq
theorem k_roads (e145 : h.2.2 145 = some (eM th ta si pt fa co nm rd ask nw os sw bc bm gg)) (e151 : h.2.2 151 = some (eI 168 F)) (hq : Q (.inl (some (.int (F 2)))) h) : X G d mX12_roads 0 (ax_in 1 [.ref 145]) [] h Q := by
  refine ax_aload_n dX12_roads_0 rfl ?_
  refine ax_getf dX12_roads_1 flX12_75 e145 rfl ?_
  refine ax_iconst dX12_roads_4 (v := nI 2) (by decide) ?_
  refine ax_iald dX12_roads_5 e151 (ax_ix_nI (j := 2) (by decide) (by decide)) ?_
  exact ax_ireturn dX12_roads_6 rfl hq
theorem k_trades (hnw : nw = 0 ∨ nw = 1) (e145 : h.2.2 145 = some (eM th ta si pt fa co nm rd ask nw os sw bc bm gg)) (e151 : h.2.2 151 = some (eI 168 F)) (hq : Q (.inl (some (.int (F 3 + nw)))) h) : X G d mX12_trades 0 (ax_in 1 [.ref 145]) [] h Q := by
  rcases hnw with rfl | rfl
  · refine ax_aload_n dX12_trades_0 rfl ?_
    refine ax_getf dX12_trades_1 flX12_75 e145 rfl ?_
    refine ax_iconst dX12_trades_4 (v := nI 3) (by decide) ?_
    refine ax_iald dX12_trades_5 e151 (ax_ix_nI (j := 3) (by decide) (by decide)) ?_
    refine ax_aload_n dX12_trades_6 rfl ?_
    refine ax_getf dX12_trades_7 flX12_270 e145 rfl ?_
    refine ax_if_eqT 17 dX12_trades_10 (by decide) rfl ?_
    refine ax_iconst dX12_trades_17 (v := nI 0) (by decide) ?_
    refine ax_iadd dX12_trades_18 ?_
    exact ax_ireturn dX12_trades_19 rfl hq
  · refine ax_aload_n dX12_trades_0 rfl ?_
    refine ax_getf dX12_trades_1 flX12_75 e145 rfl ?_
    refine ax_iconst dX12_trades_4 (v := nI 3) (by decide) ?_
    refine ax_iald dX12_trades_5 e151 (ax_ix_nI (j := 3) (by decide) (by decide)) ?_
    refine ax_aload_n dX12_trades_6 rfl ?_
    refine ax_getf dX12_trades_7 flX12_270 e145 rfl ?_
    refine ax_if_eqF 17 dX12_trades_10 (by decide) (by decide) ?_
    refine ax_iconst dX12_trades_13 (v := nI 1) (by decide) ?_
    refine ax_goto 18 dX12_trades_14 (by decide) ?_
    refine ax_iadd dX12_trades_18 ?_
    exact ax_ireturn dX12_trades_19 rfl hq
theorem k_isRoad {x : Int32} (e145 : h.2.2 145 = some (eM th ta si pt fa co nm rd ask nw os sw bc bm gg)) (e151 : h.2.2 151 = some (eI 168 F)) (hq : Q (.inl (some (.int (b1 (¬ x < 0 ∧ ¬ F 2 ≤ x))))) h) : X G (d + 1) mX12_isRoad 0 (ax_in 2 [.ref 145, .int x]) [] h Q := by
  by_cases g1 : x < 0
  · rw [b1_f (fun q => q.1 g1)] at hq
    refine ax_iload_n dX12_isRoad_0 rfl ?_
    refine ax_if_ltT 16 dX12_isRoad_1 (by decide) g1 ?_
    refine ax_iconst dX12_isRoad_16 (v := nI 0) (by decide) ?_
    exact ax_zreturn dX12_isRoad_17 rfl ((Or.inl rfl)) hq
  · refine ax_iload_n dX12_isRoad_0 rfl ?_
    refine ax_if_ltF 16 dX12_isRoad_1 (by decide) g1 ?_
    refine ax_iload_n dX12_isRoad_4 rfl ?_
    refine ax_aload_n dX12_isRoad_5 rfl ?_
    refine ax_cV dX12_isRoad_6 mmX12_roads lkX12_194 miX12_roads msX12_roads (ax_recv_of e145 rfl) rfl rfl (Nat.le_of_ble_eq_true rfl) (Nat.le_of_ble_eq_true rfl) rfl rfl (k_roads e145 e151 ⟨_, rfl, ?_⟩)
    by_cases g2 : F 2 ≤ x
    · rw [b1_f (fun q => q.2 g2)] at hq
      refine ax_icmp_geT 16 dX12_isRoad_9 (by decide) g2 ?_
      refine ax_iconst dX12_isRoad_16 (v := nI 0) (by decide) ?_
      exact ax_zreturn dX12_isRoad_17 rfl ((Or.inl rfl)) hq
    · rw [b1_t ⟨g1, g2⟩] at hq
      refine ax_icmp_geF 16 dX12_isRoad_9 (by decide) g2 ?_
      refine ax_iconst dX12_isRoad_12 (v := nI 1) (by decide) ?_
      refine ax_goto 17 dX12_isRoad_13 (by decide) ?_
      exact ax_zreturn dX12_isRoad_17 rfl ((Or.inr rfl)) hq
theorem k_isStuff {x : Int32} (e145 : h.2.2 145 = some (eM th ta si pt fa co nm rd ask nw os sw bc bm gg)) (e151 : h.2.2 151 = some (eI 168 F)) (hq : Q (.inl (some (.int (b1 (¬ x < 0 ∧ ¬ F 0 ≤ x))))) h) : X G (d + 1) mX12_isStuff 0 (ax_in 2 [.ref 145, .int x]) [] h Q := by
  by_cases g1 : x < 0
  · rw [b1_f (fun q => q.1 g1)] at hq
    refine ax_iload_n dX12_isStuff_0 rfl ?_
    refine ax_if_ltT 16 dX12_isStuff_1 (by decide) g1 ?_
    refine ax_iconst dX12_isStuff_16 (v := nI 0) (by decide) ?_
    exact ax_zreturn dX12_isStuff_17 rfl ((Or.inl rfl)) hq
  · refine ax_iload_n dX12_isStuff_0 rfl ?_
    refine ax_if_ltF 16 dX12_isStuff_1 (by decide) g1 ?_
    refine ax_iload_n dX12_isStuff_4 rfl ?_
    refine ax_aload_n dX12_isStuff_5 rfl ?_
    refine ax_cV dX12_isStuff_6 mmX12_stuffs lkX12_273 miX12_stuffs msX12_stuffs (ax_recv_of e145 rfl) rfl rfl (Nat.le_of_ble_eq_true rfl) (Nat.le_of_ble_eq_true rfl) rfl rfl (k_stuffs e145 e151 ⟨_, rfl, ?_⟩)
    by_cases g2 : F 0 ≤ x
    · rw [b1_f (fun q => q.2 g2)] at hq
      refine ax_icmp_geT 16 dX12_isStuff_9 (by decide) g2 ?_
      refine ax_iconst dX12_isStuff_16 (v := nI 0) (by decide) ?_
      exact ax_zreturn dX12_isStuff_17 rfl ((Or.inl rfl)) hq
    · rw [b1_t ⟨g1, g2⟩] at hq
      refine ax_icmp_geF 16 dX12_isStuff_9 (by decide) g2 ?_
      refine ax_iconst dX12_isStuff_12 (v := nI 1) (by decide) ?_
      refine ax_goto 17 dX12_isStuff_13 (by decide) ?_
      exact ax_zreturn dX12_isStuff_17 rfl ((Or.inr rfl)) hq
theorem k_isTrade {x : Int32} (hnw : nw = 0 ∨ nw = 1) (e145 : h.2.2 145 = some (eM th ta si pt fa co nm rd ask nw os sw bc bm gg)) (e151 : h.2.2 151 = some (eI 168 F)) (hq : Q (.inl (some (.int (b1 (¬ x < 0 ∧ ¬ F 3 + nw ≤ x))))) h) : X G (d + 1) mX12_isTrade 0 (ax_in 2 [.ref 145, .int x]) [] h Q := by
  by_cases g1 : x < 0
  · rw [b1_f (fun q => q.1 g1)] at hq
    refine ax_iload_n dX12_isTrade_0 rfl ?_
    refine ax_if_ltT 16 dX12_isTrade_1 (by decide) g1 ?_
    refine ax_iconst dX12_isTrade_16 (v := nI 0) (by decide) ?_
    exact ax_zreturn dX12_isTrade_17 rfl ((Or.inl rfl)) hq
  · refine ax_iload_n dX12_isTrade_0 rfl ?_
    refine ax_if_ltF 16 dX12_isTrade_1 (by decide) g1 ?_
    refine ax_iload_n dX12_isTrade_4 rfl ?_
    refine ax_aload_n dX12_isTrade_5 rfl ?_
    refine ax_cV dX12_isTrade_6 mmX12_trades lkX12_276 miX12_trades msX12_trades (ax_recv_of e145 rfl) rfl rfl (Nat.le_of_ble_eq_true rfl) (Nat.le_of_ble_eq_true rfl) rfl rfl (k_trades hnw e145 e151 ⟨_, rfl, ?_⟩)
    by_cases g2 : F 3 + nw ≤ x
    · rw [b1_f (fun q => q.2 g2)] at hq
      refine ax_icmp_geT 16 dX12_isTrade_9 (by decide) g2 ?_
      refine ax_iconst dX12_isTrade_16 (v := nI 0) (by decide) ?_
      exact ax_zreturn dX12_isTrade_17 rfl ((Or.inl rfl)) hq
    · rw [b1_t ⟨g1, g2⟩] at hq
      refine ax_icmp_geF 16 dX12_isTrade_9 (by decide) g2 ?_
      refine ax_iconst dX12_isTrade_12 (v := nI 1) (by decide) ?_
      refine ax_goto 17 dX12_isTrade_13 (by decide) ?_
      exact ax_zreturn dX12_isTrade_17 rfl ((Or.inr rfl)) hq
theorem k_isPlaceOf {x : Int32} (e145 : h.2.2 145 = some (eM th ta si pt fa co nm rd ask nw os sw bc bm gg)) (e151 : h.2.2 151 = some (eI 168 F)) (hq : Q (.inl (some (.int (b1 (¬ x < 0 ∧ ¬ F 1 ≤ x))))) h) : X G d mX12_isPlaceOf 0 (ax_in 2 [.ref 145, .int x]) [] h Q := by
  by_cases g1 : x < 0
  · rw [b1_f (fun q => q.1 g1)] at hq
    refine ax_iload_n dX12_isPlaceOf_0 rfl ?_
    refine ax_if_ltT 18 dX12_isPlaceOf_1 (by decide) g1 ?_
    refine ax_iconst dX12_isPlaceOf_18 (v := nI 0) (by decide) ?_
    exact ax_zreturn dX12_isPlaceOf_19 rfl ((Or.inl rfl)) hq
  · refine ax_iload_n dX12_isPlaceOf_0 rfl ?_
    refine ax_if_ltF 18 dX12_isPlaceOf_1 (by decide) g1 ?_
    refine ax_iload_n dX12_isPlaceOf_4 rfl ?_
    refine ax_aload_n dX12_isPlaceOf_5 rfl ?_
    refine ax_getf dX12_isPlaceOf_6 flX12_75 e145 rfl ?_
    refine ax_iconst dX12_isPlaceOf_9 (v := nI 1) (by decide) ?_
    refine ax_iald dX12_isPlaceOf_10 e151 (ax_ix_nI (j := 1) (by decide) (by decide)) ?_
    by_cases g2 : F 1 ≤ x
    · rw [b1_f (fun q => q.2 g2)] at hq
      refine ax_icmp_geT 18 dX12_isPlaceOf_11 (by decide) g2 ?_
      refine ax_iconst dX12_isPlaceOf_18 (v := nI 0) (by decide) ?_
      exact ax_zreturn dX12_isPlaceOf_19 rfl ((Or.inl rfl)) hq
    · rw [b1_t ⟨g1, g2⟩] at hq
      refine ax_icmp_geF 18 dX12_isPlaceOf_11 (by decide) g2 ?_
      refine ax_iconst dX12_isPlaceOf_14 (v := nI 1) (by decide) ?_
      refine ax_goto 19 dX12_isPlaceOf_15 (by decide) ?_
      exact ax_zreturn dX12_isPlaceOf_19 rfl ((Or.inr rfl)) hq
theorem k_areYears {x : Int32} (hq : Q (.inl (some (.int (b1 (¬ x < nI 1 ∧ ¬ nI 50 < x))))) h) : X G d mX12_areYears 0 (ax_in 1 [.int x]) [] h Q := by
  by_cases g1 : x < nI 1
  · rw [b1_f (fun q => q.1 g1)] at hq
    refine ax_iload_n dX12_areYears_0 rfl ?_
    refine ax_iconst dX12_areYears_1 (v := nI 1) (by decide) ?_
    refine ax_icmp_ltT 15 dX12_areYears_2 (by decide) g1 ?_
    refine ax_iconst dX12_areYears_15 (v := nI 0) (by decide) ?_
    exact ax_zreturn dX12_areYears_16 rfl ((Or.inl rfl)) hq
  · refine ax_iload_n dX12_areYears_0 rfl ?_
    refine ax_iconst dX12_areYears_1 (v := nI 1) (by decide) ?_
    refine ax_icmp_ltF 15 dX12_areYears_2 (by decide) g1 ?_
    by_cases g2 : nI 50 < x
    · rw [b1_f (fun q => q.2 g2)] at hq
      refine ax_iload_n dX12_areYears_5 rfl ?_
      refine ax_bipush dX12_areYears_6 (v := nI 50) (by decide) ?_
      refine ax_icmp_gtT 15 dX12_areYears_8 (by decide) g2 ?_
      refine ax_iconst dX12_areYears_15 (v := nI 0) (by decide) ?_
      exact ax_zreturn dX12_areYears_16 rfl ((Or.inl rfl)) hq
    · rw [b1_t ⟨g1, g2⟩] at hq
      refine ax_iload_n dX12_areYears_5 rfl ?_
      refine ax_bipush dX12_areYears_6 (v := nI 50) (by decide) ?_
      refine ax_icmp_gtF 15 dX12_areYears_8 (by decide) g2 ?_
      refine ax_iconst dX12_areYears_11 (v := nI 1) (by decide) ?_
      refine ax_goto 16 dX12_areYears_12 (by decide) ?_
      exact ax_zreturn dX12_areYears_16 rfl ((Or.inr rfl)) hq
theorem k_within {x a b : Int32} (hq : Q (.inl (some (.int (b1 (¬ x < a ∧ ¬ b < x))))) h) : X G d mX12_within 0 (ax_in 3 [.int x, .int a, .int b]) [] h Q := by
  by_cases g1 : x < a
  · rw [b1_f (fun q => q.1 g1)] at hq
    refine ax_iload_n dX12_within_0 rfl ?_
    refine ax_iload_n dX12_within_1 rfl ?_
    refine ax_icmp_ltT 14 dX12_within_2 (by decide) g1 ?_
    refine ax_iconst dX12_within_14 (v := nI 0) (by decide) ?_
    exact ax_zreturn dX12_within_15 rfl ((Or.inl rfl)) hq
  · refine ax_iload_n dX12_within_0 rfl ?_
    refine ax_iload_n dX12_within_1 rfl ?_
    refine ax_icmp_ltF 14 dX12_within_2 (by decide) g1 ?_
    by_cases g2 : b < x
    · rw [b1_f (fun q => q.2 g2)] at hq
      refine ax_iload_n dX12_within_5 rfl ?_
      refine ax_iload_n dX12_within_6 rfl ?_
      refine ax_icmp_gtT 14 dX12_within_7 (by decide) g2 ?_
      refine ax_iconst dX12_within_14 (v := nI 0) (by decide) ?_
      exact ax_zreturn dX12_within_15 rfl ((Or.inl rfl)) hq
    · rw [b1_t ⟨g1, g2⟩] at hq
      refine ax_iload_n dX12_within_5 rfl ?_
      refine ax_iload_n dX12_within_6 rfl ?_
      refine ax_icmp_gtF 14 dX12_within_7 (by decide) g2 ?_
      refine ax_iconst dX12_within_10 (v := nI 1) (by decide) ?_
      refine ax_goto 15 dX12_within_11 (by decide) ?_
      exact ax_zreturn dX12_within_15 rfl ((Or.inr rfl)) hq
theorem k_roadOf {r i : Nat} (hr : r < 10) (hi : i < 4) (e145 : h.2.2 145 = some (eM th ta si pt fa co nm rd ask nw os sw bc bm gg)) (e151 : h.2.2 151 = some (eI 168 F)) (hq : Q (.inl (some (.int (F (17 + 4 * r + i))))) h) : X G d mX12_roadOf 0 (ax_in 3 [.ref 145, .int (nI r), .int (nI i)]) [] h Q := by
  refine ax_aload_n dX12_roadOf_0 rfl ?_
  refine ax_getf dX12_roadOf_1 flX12_75 e145 rfl ?_
  refine ax_bipush dX12_roadOf_4 (v := nI 17) (by decide) ?_
  refine ax_iconst dX12_roadOf_6 (v := nI 4) (by decide) ?_
  refine ax_iload_n dX12_roadOf_7 rfl ?_
  refine ax_imul dX12_roadOf_8 ?_
  refine ax_iadd dX12_roadOf_9 ?_
  refine ax_iload_n dX12_roadOf_10 rfl ?_
  refine ax_iadd dX12_roadOf_11 ?_
  rw [pk_mul, nI_add, nI_add]
  refine ax_iald dX12_roadOf_12 e151 (ax_ix_nI (j := 17 + 4 * r + i) (by omega) (by decide)) ?_
  exact ax_ireturn dX12_roadOf_13 rfl hq
/-- what a trade tells, as the model reads it -/
def tdF (F : Nat → Int32) (os : Int32) (t i : Nat) : Int32 := if i = 2 ∧ ¬ os < 0 then os else F (57 + 4 * t + i)
theorem k_tradeOf {t i : Nat} (ht : t < 7) (hi : i < 4) (e145 : h.2.2 145 = some (eM th ta si pt fa co nm rd ask nw os sw bc bm gg)) (e151 : h.2.2 151 = some (eI 168 F)) (hq : Q (.inl (some (.int (tdF F os t i)))) h) : X G d mX12_tradeOf 0 (ax_in 3 [.ref 145, .int (nI t), .int (nI i)]) [] h Q := by
  unfold tdF at hq
  have rest : ¬ (i = 2 ∧ ¬ os < 0) → X G d mX12_tradeOf 19 [some (.ref 145), some (.int (nI t)), some (.int (nI i))] [] h Q := fun z => by
    rw [if_neg z] at hq
    refine ax_aload_n dX12_tradeOf_19 rfl ?_
    refine ax_getf dX12_tradeOf_20 flX12_75 e145 rfl ?_
    refine ax_bipush dX12_tradeOf_23 (v := nI 57) (by decide) ?_
    refine ax_iconst dX12_tradeOf_25 (v := nI 4) (by decide) ?_
    refine ax_iload_n dX12_tradeOf_26 rfl ?_
    refine ax_imul dX12_tradeOf_27 ?_
    refine ax_iadd dX12_tradeOf_28 ?_
    refine ax_iload_n dX12_tradeOf_29 rfl ?_
    refine ax_iadd dX12_tradeOf_30 ?_
    rw [pk_mul, nI_add, nI_add]
    refine ax_iald dX12_tradeOf_31 e151 (ax_ix_nI (j := 57 + 4 * t + i) (by omega) (by decide)) ?_
    exact ax_ireturn dX12_tradeOf_32 rfl hq
  by_cases g1 : i = 2
  · subst g1
    by_cases g2 : os < 0
    · refine ax_iload_n dX12_tradeOf_0 rfl ?_
      refine ax_iconst dX12_tradeOf_1 (v := nI 2) (by decide) ?_
      refine ax_icmp_neF 19 dX12_tradeOf_2 (by decide) rfl ?_
      refine ax_aload_n dX12_tradeOf_5 rfl ?_
      refine ax_getf dX12_tradeOf_6 flX12_106 e145 rfl ?_
      refine ax_if_ltT 19 dX12_tradeOf_9 (by decide) g2 ?_
      exact rest (fun q => q.2 g2)
    · rw [if_pos ⟨rfl, g2⟩] at hq
      refine ax_iload_n dX12_tradeOf_0 rfl ?_
      refine ax_iconst dX12_tradeOf_1 (v := nI 2) (by decide) ?_
      refine ax_icmp_neF 19 dX12_tradeOf_2 (by decide) rfl ?_
      refine ax_aload_n dX12_tradeOf_5 rfl ?_
      refine ax_getf dX12_tradeOf_6 flX12_106 e145 rfl ?_
      refine ax_if_ltF 19 dX12_tradeOf_9 (by decide) g2 ?_
      refine ax_aload_n dX12_tradeOf_12 rfl ?_
      refine ax_getf dX12_tradeOf_13 flX12_106 e145 rfl ?_
      refine ax_goto 32 dX12_tradeOf_16 (by decide) ?_
      exact ax_ireturn dX12_tradeOf_32 rfl hq
  · refine ax_iload_n dX12_tradeOf_0 rfl ?_
    refine ax_iconst dX12_tradeOf_1 (v := nI 2) (by decide) ?_
    refine ax_icmp_neT 19 dX12_tradeOf_2 (by decide) (fun z => g1 (nI_inj (by omega) (by omega) z)) ?_
    exact rest (fun q => g1 q.1)
theorem k_isWorn {r : Nat} (hr : r < 10) (e145 : h.2.2 145 = some (eM th ta si pt fa co nm rd ask nw os sw bc bm gg)) (e159 : h.2.2 159 = some (eI 12840 S)) (hq : Q (.inl (some (.int (b1 (¬ S (1 + r) < nI 1000))))) h) : X G d mX12_isWorn 0 (ax_in 2 [.ref 145, .int (nI r)]) [] h Q := by
  refine ax_aload_n dX12_isWorn_0 rfl ?_
  refine ax_getf dX12_isWorn_1 flX12_99 e145 rfl ?_
  refine ax_iconst dX12_isWorn_4 (v := nI 1) (by decide) ?_
  refine ax_iload_n dX12_isWorn_5 rfl ?_
  refine ax_iadd dX12_isWorn_6 ?_
  rw [nI_add]
  refine ax_iald dX12_isWorn_7 e159 (ax_ix_nI (j := 1 + r) (by omega) (by decide)) ?_
  by_cases g1 : S (1 + r) < nI 1000
  · rw [b1_f (fun q => q g1)] at hq
    refine ax_sipush dX12_isWorn_8 (v := nI 1000) (by decide) ?_
    refine ax_icmp_ltT 18 dX12_isWorn_11 (by decide) g1 ?_
    refine ax_iconst dX12_isWorn_18 (v := nI 0) (by decide) ?_
    exact ax_zreturn dX12_isWorn_19 rfl ((Or.inl rfl)) hq
  · rw [b1_t g1] at hq
    refine ax_sipush dX12_isWorn_8 (v := nI 1000) (by decide) ?_
    refine ax_icmp_ltF 18 dX12_isWorn_11 (by decide) g1 ?_
    refine ax_iconst dX12_isWorn_14 (v := nI 1) (by decide) ?_
    refine ax_goto 19 dX12_isWorn_15 (by decide) ?_
    exact ax_zreturn dX12_isWorn_19 rfl ((Or.inr rfl)) hq
theorem k_clip {v a b : Int32} (hq : Q (.inl (some (.int (clp a v b)))) h) : X G d mX12_clip 0 (ax_in 3 [.int v, .int a, .int b]) [] h Q := by
  unfold clp at hq
  by_cases g1 : v < a
  · rw [if_pos g1] at hq
    refine ax_iload_n dX12_clip_0 rfl ?_
    refine ax_iload_n dX12_clip_1 rfl ?_
    refine ax_icmp_geF 9 dX12_clip_2 (by decide) (fun z => Int32.not_le.mpr g1 z) ?_
    refine ax_iload_n dX12_clip_5 rfl ?_
    refine ax_goto 19 dX12_clip_6 (by decide) ?_
    exact ax_ireturn dX12_clip_19 rfl hq
  · rw [if_neg g1] at hq
    by_cases g2 : b < v
    · rw [if_pos g2] at hq
      refine ax_iload_n dX12_clip_0 rfl ?_
      refine ax_iload_n dX12_clip_1 rfl ?_
      refine ax_icmp_geT 9 dX12_clip_2 (by decide) (Int32.not_lt.mp g1) ?_
      refine ax_iload_n dX12_clip_9 rfl ?_
      refine ax_iload_n dX12_clip_10 rfl ?_
      refine ax_icmp_leF 18 dX12_clip_11 (by decide) (fun z => Int32.not_le.mpr g2 z) ?_
      refine ax_iload_n dX12_clip_14 rfl ?_
      refine ax_goto 19 dX12_clip_15 (by decide) ?_
      exact ax_ireturn dX12_clip_19 rfl hq
    · rw [if_neg g2] at hq
      refine ax_iload_n dX12_clip_0 rfl ?_
      refine ax_iload_n dX12_clip_1 rfl ?_
      refine ax_icmp_geT 9 dX12_clip_2 (by decide) (Int32.not_lt.mp g1) ?_
      refine ax_iload_n dX12_clip_9 rfl ?_
      refine ax_iload_n dX12_clip_10 rfl ?_
      refine ax_icmp_leT 18 dX12_clip_11 (by decide) (Int32.not_lt.mp g2) ?_
      refine ax_iload_n dX12_clip_18 rfl ?_
      exact ax_ireturn dX12_clip_19 rfl hq
end MO
