/-! ===== the tape ===== -/
section TP
variable {G : ax_G} {d : Nat} {h : ax_H} {Q : ax_O → ax_H → Prop} {N : Nt} {σ : Sd}
/-- eight bits of a long, from bit k -/
def byt (x : Int64) (k : Nat) : Nat := x.toBitVec.toNat / 2 ^ k % 256
theorem byt_lt (x : Int64) (k : Nat) : byt x k < 256 := Nat.mod_lt _ (by decide)
theorem lo32 (b : Int64) : b.toInt32.toBitVec.toNat % 2 ^ 8 = b.toBitVec.toNat % 256 := by
  show (b.toBitVec.signExtend 32).toNat % 2 ^ 8 = _
  rw [BitVec.signExtend_eq_setWidth_of_le _ (by decide), BitVec.toNat_setWidth]
  omega
theorem ushr_nat (x : Int64) (n : UInt64) (k : Nat) (hn : n.toNat % 64 = k) : (x.toUInt64 >>> n).toInt64.toBitVec.toNat = x.toBitVec.toNat / 2 ^ k := by
  show (x.toUInt64 >>> n).toNat = _
  rw [UInt64.toNat_shiftRight, hn, Nat.shiftRight_eq_div_pow]
  rfl
theorem byU {x : Int64} {y : Int32} {k : Nat} (hn : (y.toInt64.toUInt64 &&& Int64.toUInt64 63).toNat % 64 = k) : (x.toUInt64 >>> (y.toInt64.toUInt64 &&& Int64.toUInt64 63)).toInt64.toInt32 &&& nI 255 = nI (byt x k) := by
  rw [pk_and _ 8 (by decide), lo32, ushr_nat x _ k hn]
  rfl
theorem sshr_nat (b : BitVec 64) {k : Nat} (hk : k + 8 ≤ 64) : (b.sshiftRight k).toNat % 256 = b.toNat / 2 ^ k % 256 := by
  refine Nat.eq_of_testBit_eq fun i => ?_
  rw [show (256 : Nat) = 2 ^ 8 from rfl, Nat.testBit_mod_two_pow, Nat.testBit_mod_two_pow, Nat.testBit_div_two_pow, ← BitVec.getLsbD, ← BitVec.getLsbD, BitVec.getLsbD_sshiftRight]
  by_cases hi : i < 8
  · have h1 : ¬ 64 ≤ i := by omega
    have h2 : k + i < 64 := by omega
    simp [hi, h1, h2, Nat.add_comm]
  · simp [hi]
theorem byS {x : Int64} {y : Int32} {k : Nat} (hk : k + 8 ≤ 64) (hn : ((y.toInt64 &&& 63).toBitVec.smod 64).toNat = k) : (x >>> (y.toInt64 &&& 63)).toInt32 &&& nI 255 = nI (byt x k) := by
  rw [pk_and _ 8 (by decide), lo32]
  show nI ((x.toBitVec.sshiftRight' ((y.toInt64 &&& 63).toBitVec.smod 64)).toNat % 256) = _
  rw [show x.toBitVec.sshiftRight' ((y.toInt64 &&& 63).toBitVec.smod 64) = x.toBitVec.sshiftRight k from by rw [BitVec.sshiftRight', hn], sshr_nat _ hk]
  rfl
/-- a sign that the tape takes -/
def okS (c : Nat) : Prop := c = 10 ∨ (32 ≤ c ∧ c ≤ 126)
abbrev okB (c : Nat) : Bool := decide (c = 10 ∨ (32 ≤ c ∧ c ≤ 126))
def lay1 (tp : List Nat) (c : Nat) : List Nat := if (c = 10 ∨ (32 ≤ c ∧ c ≤ 126)) ∧ tp.length < 1000 then tp ++ [c] else tp
/-- the eight signs of a long, from the shift i on -/
def layN (x : Int64) : Nat → List Nat → List Nat
  | 0, tp => lay1 tp (byt x 0)
  | i + 1, tp => layN x i (lay1 tp (byt x (8 * (i + 1))))
def lay (x : Int64) (tp : List Nat) : List Nat := layN x 7 tp
def feed (tp : List Nat) (a b c : Int64) : List Nat := lay c (lay b (lay a tp))
theorem lay1_le {tp : List Nat} {c : Nat} (hl : tp.length ≤ 1000) : (lay1 tp c).length ≤ 1000 := by
  unfold lay1
  split
  · rename_i hc; simp only [List.length_append, List.length_singleton]; omega
  · exact hl
theorem lay1_ok {tp : List Nat} {c : Nat} (ho : ∀ s ∈ tp, okS s) : ∀ s ∈ lay1 tp c, okS s := by
  unfold lay1
  split
  · rename_i hc
    intro s hs
    rcases List.mem_append.mp hs with q | q
    · exact ho s q
    · rw [List.mem_singleton.mp q]; exact hc.1
  · exact ho
theorem layN_ok {x : Int64} : ∀ (i : Nat) (tp : List Nat), tp.length ≤ 1000 → (∀ s ∈ tp, okS s) → (layN x i tp).length ≤ 1000 ∧ ∀ s ∈ layN x i tp, okS s
  | 0, tp, hl, ho => ⟨lay1_le hl, lay1_ok ho⟩
  | i + 1, tp, hl, ho => layN_ok i _ (lay1_le hl) (lay1_ok ho)
/-- the class's tape -/
def Tape (h : ax_H) (tp : List Nat) : Prop := h.2.2 65 = some (eTape (nI tp.length)) ∧ (∃ f, h.2.2 66 = some (eB 1000 f) ∧ ∀ j, j < tp.length → f j = nI (tp.getD j 0)) ∧ tp.length ≤ 1000 ∧ ∀ s ∈ tp, okS s
theorem Tape.kept {h' : ax_H} {tp : List Nat} (a : Tape h tp) (hk : ∀ j, 65 ≤ j → j ≤ 66 → h'.2.2 j = h.2.2 j) : Tape h' tp := by
  obtain ⟨e, ⟨f, e1, q1⟩, q2⟩ := a
  exact ⟨(hk _ (by omega) (by omega)).trans e, ⟨f, (hk _ (by omega) (by omega)).trans e1, q1⟩, q2⟩
theorem getD_app {tp : List Nat} {c j : Nat} (hj : j < tp.length + 1) : (tp ++ [c]).getD j 0 = if j = tp.length then c else tp.getD j 0 := by
  by_cases hc : j = tp.length
  · rw [if_pos hc, getD_ar (by omega), hc, Nat.sub_self]; rfl
  · rw [if_neg hc, getD_al (by omega)]
theorem c_append {x : Int64} {tp : List Nat} (hT : Tape h tp) (hq : ∀ h', But h h' (fun j => j = 65 ∨ j = 66) → Tape h' (lay x tp) → Q (.inl none) h') : X G d mX5_append 0 (ax_in 5 [.ref 65, .long x]) [] h Q := by
  have one : ∀ (k : Nat) (y : Int32) (o4 : Option Value) (h1 : ax_H) (tp1 : List Nat), ¬ y < 0 → (y.toInt64.toUInt64 &&& Int64.toUInt64 63).toNat % 64 = k → But h h1 (fun j => j = 65 ∨ j = 66) → Tape h1 tp1 → (∀ h2, But h h2 (fun j => j = 65 ∨ j = 66) → Tape h2 (lay1 tp1 (byt x k)) → X G d mX5_append 3 [some (.ref 65), some (.long x), none, some (.int (y - nI 8)), some (.int (nI (byt x k)))] [] h2 Q) → X G d mX5_append 3 [some (.ref 65), some (.long x), none, some (.int y), o4] [] h1 Q := by
    intro k y o4 h1 tp1 hy hk hb hT1 nx
    obtain ⟨e65, ⟨f, e66, q1⟩, hl, ho⟩ := id hT1
    have hb8 := byt_lt x k
    have off : ¬ ((byt x k = 10 ∨ (32 ≤ byt x k ∧ byt x k ≤ 126)) ∧ tp1.length < 1000) → X G d mX5_append 70 [some (.ref 65), some (.long x), none, some (.int y), some (.int (nI (byt x k)))] [] h1 Q := by
      intro hn
      refine ax_iinc dX5_append_70 rfl (ax_incm 8) ?_
      refine ax_goto 3 dX5_append_73 (by decide) ?_
      refine nx h1 hb ?_
      unfold lay1
      rw [if_neg hn]
      exact hT1
    have inn : (byt x k = 10 ∨ (32 ≤ byt x k ∧ byt x k ≤ 126)) → X G d mX5_append 38 [some (.ref 65), some (.long x), none, some (.int y), some (.int (nI (byt x k)))] [] h1 Q := by
      intro hc
      by_cases hl1 : tp1.length < 1000
      · refine ax_aload_n dX5_append_38 rfl ?_
        refine ax_getf dX5_append_39 flX5_13 e65 rfl ?_
        refine ax_sipush dX5_append_42 (v := nI 1000) (by decide) ?_
        refine ax_icmp_geF 70 dX5_append_45 (by decide) (nI_ge (by omega) (by omega)) ?_
        refine ax_aload_n dX5_append_48 rfl ?_
        refine ax_getf dX5_append_49 flX5_9 e65 rfl ?_
        refine ax_aload_n dX5_append_52 rfl ?_
        refine ax_getf dX5_append_53 flX5_13 e65 rfl ?_
        refine ax_iload dX5_append_56 rfl ?_
        refine ax_i2b dX5_append_58 ?_
        refine ax_bast dX5_append_59 e66 (ax_ix_nI (by omega) (by decide)) ?_
        refine ax_aload_n dX5_append_60 rfl ?_
        refine ax_dup dX5_append_61 rfl ?_
        refine ax_getf dX5_append_62 flX5_13 ((ax_wr_ne (by decide)).trans (e65)) rfl ?_
        refine ax_iconst dX5_append_65 (v := nI 1) (by decide) ?_
        refine ax_iadd dX5_append_66 ?_
        refine ax_putf dX5_append_67 flX5_13 ((ax_wr_ne (by decide)).trans (e65)) (Nat.le_of_ble_eq_true rfl) (fun _ => ⟨rfl, rfl⟩) ?_
        refine ax_iinc dX5_append_70 rfl (ax_incm 8) ?_
        refine ax_goto 3 dX5_append_73 (by decide) ?_
        refine nx _ ((hb.wr (Or.inr rfl)).wr (Or.inl rfl)) ?_
        unfold lay1
        rw [if_pos ⟨hc, hl1⟩]
        refine ⟨?_, ⟨_, (ax_wr_ne (by decide)).trans ax_wr_eq, fun j hj => ?_⟩, ?_, ?_⟩
        · rw [ax_wr_eq, nI_add, List.length_append]; rfl
        · rw [List.length_append, List.length_singleton] at hj
          rw [getD_app hj]
          have nb : ((nI (byt x k)).toInt8.toInt32).toInt8.toInt32 = nI (byt x k) := by
            have h9 : ∀ n : Nat, n < 128 → ((nI n).toInt8.toInt32).toInt8.toInt32 = nI n := by decide +kernel
            exact h9 _ (by omega)
          unfold upd
          by_cases hj2 : j = tp1.length
          · rw [if_pos hj2, if_pos hj2, nb]
          · rw [if_neg hj2, if_neg hj2]; exact q1 j (by omega)
        · rw [List.length_append, List.length_singleton]; omega
        · intro s hs
          rcases List.mem_append.mp hs with q | q
          · exact ho s q
          · rw [List.mem_singleton.mp q]; exact hc
      · refine ax_aload_n dX5_append_38 rfl ?_
        refine ax_getf dX5_append_39 flX5_13 e65 rfl ?_
        refine ax_sipush dX5_append_42 (v := nI 1000) (by decide) ?_
        refine ax_icmp_geT 70 dX5_append_45 (by decide) (nI_le (by omega) (by omega)) ?_
        exact off (fun q => hl1 q.2)
    refine ax_iload_n dX5_append_3 rfl ?_
    refine ax_if_ltF 76 dX5_append_4 (by decide) hy ?_
    refine ax_lload_n dX5_append_7 rfl ?_
    refine ax_iload_n dX5_append_8 rfl ?_
    refine ax_lushr dX5_append_9 ?_
    refine ax_l2i dX5_append_10 ?_
    refine ax_sipush dX5_append_11 (v := nI 255) (by decide) ?_
    refine ax_iand dX5_append_14 ?_
    rw [byU hk]
    refine ax_istore dX5_append_15 (Nat.le_of_ble_eq_true rfl) ?_
    by_cases h10 : byt x k = 10
    · refine ax_iload dX5_append_17 rfl ?_
      refine ax_bipush dX5_append_19 (v := nI 10) (by decide) ?_
      refine ax_icmp_eqT 38 dX5_append_21 (by decide) (by rw [h10]) ?_
      exact inn (Or.inl h10)
    · refine ax_iload dX5_append_17 rfl ?_
      refine ax_bipush dX5_append_19 (v := nI 10) (by decide) ?_
      refine ax_icmp_eqF 38 dX5_append_21 (by decide) (fun q => h10 ((nI_eq (by omega) (by omega)).mp q)) ?_
      by_cases h32 : 32 ≤ byt x k
      · refine ax_iload dX5_append_24 rfl ?_
        refine ax_bipush dX5_append_26 (v := nI 32) (by decide) ?_
        refine ax_icmp_ltF 70 dX5_append_28 (by decide) (nI_nlt h32 (by omega)) ?_
        by_cases h126 : byt x k ≤ 126
        · refine ax_iload dX5_append_31 rfl ?_
          refine ax_bipush dX5_append_33 (v := nI 126) (by decide) ?_
          refine ax_icmp_gtF 70 dX5_append_35 (by decide) (nI_nlt h126 (by omega)) ?_
          exact inn (Or.inr ⟨h32, h126⟩)
        · refine ax_iload dX5_append_31 rfl ?_
          refine ax_bipush dX5_append_33 (v := nI 126) (by decide) ?_
          refine ax_icmp_gtT 70 dX5_append_35 (by decide) (nI_lt (by omega) (by omega)) ?_
          exact off (fun q => by omega)
      · refine ax_iload dX5_append_24 rfl ?_
        refine ax_bipush dX5_append_26 (v := nI 32) (by decide) ?_
        refine ax_icmp_ltT 70 dX5_append_28 (by decide) (nI_lt (by omega) (by omega)) ?_
        exact off (fun q => by omega)
  refine ax_bipush dX5_append_0 (v := nI 56) (by decide) ?_
  refine ax_istore_n dX5_append_2 (Nat.le_of_ble_eq_true rfl) ?_
  refine one 56 (nI 56) none h tp (by decide) (by decide) But.rf hT (fun h1 hb1 hT1 => ?_)
  refine one 48 (nI 56 - nI 8) _ h1 _ (by decide) (by decide) hb1 hT1 (fun h2 hb2 hT2 => ?_)
  refine one 40 (nI 56 - nI 8 - nI 8) _ h2 _ (by decide) (by decide) hb2 hT2 (fun h3 hb3 hT3 => ?_)
  refine one 32 (nI 56 - nI 8 - nI 8 - nI 8) _ h3 _ (by decide) (by decide) hb3 hT3 (fun h4 hb4 hT4 => ?_)
  refine one 24 (nI 56 - nI 8 - nI 8 - nI 8 - nI 8) _ h4 _ (by decide) (by decide) hb4 hT4 (fun h5 hb5 hT5 => ?_)
  refine one 16 (nI 56 - nI 8 - nI 8 - nI 8 - nI 8 - nI 8) _ h5 _ (by decide) (by decide) hb5 hT5 (fun h6 hb6 hT6 => ?_)
  refine one 8 (nI 56 - nI 8 - nI 8 - nI 8 - nI 8 - nI 8 - nI 8) _ h6 _ (by decide) (by decide) hb6 hT6 (fun h7 hb7 hT7 => ?_)
  refine one 0 (nI 56 - nI 8 - nI 8 - nI 8 - nI 8 - nI 8 - nI 8 - nI 8) _ h7 _ (by decide) (by decide) hb7 hT7 (fun h8 hb8 hT8 => ?_)
  refine ax_iload_n dX5_append_3 rfl ?_
  refine ax_if_ltT 76 dX5_append_4 (by decide) (by decide) ?_
  exact ax_return dX5_append_76 rfl (hq h8 hb8 hT8)
theorem c_feed {a b c : Int64} {tp : List Nat} {dr : Int64} (e64 : h.2.2 64 = some (eX dr)) (hT : Tape h tp) (hq : ∀ h', But h h' (fun j => j = 65 ∨ j = 66) → Tape h' (feed tp a b c) → Q (.inl (some (.int (nI (feed tp a b c).length)))) h') : X G (d + 1) mX11_feed 0 (ax_in 7 [.ref 64, .long a, .long b, .long c]) [] h Q := by
  have e65 := hT.1
  refine ax_aload_n dX11_feed_0 rfl ?_
  refine ax_getf dX11_feed_1 flX11_10 e64 rfl ?_
  refine ax_lload_n dX11_feed_4 rfl ?_
  refine ax_cV dX11_feed_5 mmX5_append lkX11_96 miX5_append msX5_append (ax_recv_of e65 rfl) rfl rfl (Nat.le_of_ble_eq_true rfl) (Nat.le_of_ble_eq_true rfl) rfl rfl (c_append hT (fun h1 hb1 hT1 => ⟨_, rfl, ?_⟩))
  have e64 := (hb1.2.2 64 (by omega)).trans e64
  have e65 := hT1.1
  refine ax_aload_n dX11_feed_8 rfl ?_
  refine ax_getf dX11_feed_9 flX11_10 e64 rfl ?_
  refine ax_lload_n dX11_feed_12 rfl ?_
  refine ax_cV dX11_feed_13 mmX5_append lkX11_96 miX5_append msX5_append (ax_recv_of e65 rfl) rfl rfl (Nat.le_of_ble_eq_true rfl) (Nat.le_of_ble_eq_true rfl) rfl rfl (c_append hT1 (fun h2 hb2 hT2 => ⟨_, rfl, ?_⟩))
  have e64 := (hb2.2.2 64 (by omega)).trans e64
  have e65 := hT2.1
  refine ax_aload_n dX11_feed_16 rfl ?_
  refine ax_getf dX11_feed_17 flX11_10 e64 rfl ?_
  refine ax_lload dX11_feed_20 rfl ?_
  refine ax_cV dX11_feed_22 mmX5_append lkX11_96 miX5_append msX5_append (ax_recv_of e65 rfl) rfl rfl (Nat.le_of_ble_eq_true rfl) (Nat.le_of_ble_eq_true rfl) rfl rfl (c_append hT2 (fun h3 hb3 hT3 => ⟨_, rfl, ?_⟩))
  have e64 := (hb3.2.2 64 (by omega)).trans e64
  have e65 := hT3.1
  refine ax_aload_n dX11_feed_25 rfl ?_
  refine ax_getf dX11_feed_26 flX11_10 e64 rfl ?_
  refine ax_getf dX11_feed_29 flX11_100 e65 rfl ?_
  exact ax_ireturn dX11_feed_32 rfl (hq _ ((hb1.tr hb2).tr hb3) hT3)
end TP
