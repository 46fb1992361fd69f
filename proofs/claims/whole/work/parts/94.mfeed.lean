section MFE
variable {G : ax_G} {d : Nat} {h : ax_H} {Q : ax_O → ax_H → Prop} {N : Nt} {σ : Sd} {μ : Nat → Option Sd}
variable {th ta si pt fa co nm rd ask nw os sw bc bm : Int32} {gg : Int64}
/-- the model's tape -/
def TpM (h : ax_H) (tp : List Nat) : Prop := (∃ f, h.2.2 146 = some (eI 1000 f) ∧ ∀ j, j < tp.length → f j = nI (tp.getD j 0)) ∧ tp.length ≤ 1000 ∧ ∀ s ∈ tp, okS s
theorem TpM.kept {h' : ax_H} {tp : List Nat} (a : TpM h tp) (hk : h'.2.2 146 = h.2.2 146) : TpM h' tp := by
  obtain ⟨⟨f, e, q⟩, q2⟩ := a
  exact ⟨⟨f, hk.trans e, q⟩, q2⟩
def fdP : Nat → Prop := fun j => j = 145 ∨ j = 146
theorem k_lay {x : Int64} {tp : List Nat} (e145 : h.2.2 145 = some (eM th (nI tp.length) si pt fa co nm rd ask nw os sw bc bm gg)) (hT : TpM h tp) (hq : ∀ h', But h h' fdP → h'.2.2 145 = some (eM th (nI (lay x tp).length) si pt fa co nm rd ask nw os sw bc bm gg) → TpM h' (lay x tp) → Q (.inl none) h') : X G d mX12_lay 0 (ax_in 5 [.ref 145, .long x]) [] h Q := by
  have one : ∀ (k : Nat) (y : Int32) (o4 : Option Value) (h1 : ax_H) (tp1 : List Nat), ¬ y < 0 → k + 8 ≤ 64 → ((y.toInt64 &&& 63).toBitVec.smod 64).toNat = k → But h h1 fdP → h1.2.2 145 = some (eM th (nI tp1.length) si pt fa co nm rd ask nw os sw bc bm gg) → TpM h1 tp1 → (∀ h2, But h h2 fdP → h2.2.2 145 = some (eM th (nI (lay1 tp1 (byt x k)).length) si pt fa co nm rd ask nw os sw bc bm gg) → TpM h2 (lay1 tp1 (byt x k)) → X G d mX12_lay 3 [some (.ref 145), some (.long x), none, some (.int (y - nI 8)), some (.int (nI (byt x k)))] [] h2 Q) → X G d mX12_lay 3 [some (.ref 145), some (.long x), none, some (.int y), o4] [] h1 Q := by
    intro k y o4 h1 tp1 hy hk8 hk hb e145 hT1 nx
    obtain ⟨⟨f, e146, q1⟩, hl, ho⟩ := id hT1
    have hb8 := byt_lt x k
    have off : ¬ ((byt x k = 10 ∨ (32 ≤ byt x k ∧ byt x k ≤ 126)) ∧ tp1.length < 1000) → X G d mX12_lay 69 [some (.ref 145), some (.long x), none, some (.int y), some (.int (nI (byt x k)))] [] h1 Q := by
      intro hn
      have e : lay1 tp1 (byt x k) = tp1 := if_neg hn
      rw [e] at nx
      refine ax_iinc dX12_lay_69 rfl (ax_incm 8) ?_
      refine ax_goto 3 dX12_lay_72 (by decide) ?_
      exact nx h1 hb e145 hT1
    have inn : (byt x k = 10 ∨ (32 ≤ byt x k ∧ byt x k ≤ 126)) → X G d mX12_lay 38 [some (.ref 145), some (.long x), none, some (.int y), some (.int (nI (byt x k)))] [] h1 Q := by
      intro hc
      by_cases hl1 : tp1.length < 1000
      · have e : lay1 tp1 (byt x k) = tp1 ++ [byt x k] := if_pos ⟨hc, hl1⟩
        rw [e] at nx
        refine ax_aload_n dX12_lay_38 rfl ?_
        refine ax_getf dX12_lay_39 flX12_11 e145 rfl ?_
        refine ax_sipush dX12_lay_42 (v := nI 1000) (by decide) ?_
        refine ax_icmp_geF 69 dX12_lay_45 (by decide) (nI_ge (by omega) (by omega)) ?_
        refine ax_aload_n dX12_lay_48 rfl ?_
        refine ax_getf dX12_lay_49 flX12_14 e145 rfl ?_
        refine ax_aload_n dX12_lay_52 rfl ?_
        refine ax_getf dX12_lay_53 flX12_11 e145 rfl ?_
        refine ax_iload dX12_lay_56 rfl ?_
        refine ax_iast dX12_lay_58 e146 (ax_ix_nI (by omega) (by decide)) ?_
        refine ax_aload_n dX12_lay_59 rfl ?_
        refine ax_dup dX12_lay_60 rfl ?_
        refine ax_getf dX12_lay_61 flX12_11 ((ax_wr_ne (by decide)).trans (e145)) rfl ?_
        refine ax_iconst dX12_lay_64 (v := nI 1) (by decide) ?_
        refine ax_iadd dX12_lay_65 ?_
        refine ax_putf dX12_lay_66 flX12_11 ((ax_wr_ne (by decide)).trans (e145)) (Nat.le_of_ble_eq_true rfl) (fun _ => ⟨rfl, rfl⟩) ?_
        refine ax_iinc dX12_lay_69 rfl (ax_incm 8) ?_
        refine ax_goto 3 dX12_lay_72 (by decide) ?_
        rw [nI_add tp1.length 1]
        refine nx _ ((hb.wr (Or.inr rfl)).wr (Or.inl rfl)) ?_ ⟨⟨_, (ax_wr_ne (by decide)).trans ax_wr_eq, fun j hj => ?_⟩, ?_, ?_⟩
        · rw [ax_wr_eq, List.length_append]; rfl
        · rw [List.length_append, List.length_singleton] at hj
          rw [getD_app hj]
          by_cases hj2 : j = tp1.length
          · rw [if_pos hj2, hj2, pk_us]
          · rw [if_neg hj2, pk_un hj2]; exact q1 j (by omega)
        · rw [List.length_append, List.length_singleton]; omega
        · intro s hs
          rcases List.mem_append.mp hs with q | q
          · exact ho s q
          · rw [List.mem_singleton.mp q]; exact hc
      · refine ax_aload_n dX12_lay_38 rfl ?_
        refine ax_getf dX12_lay_39 flX12_11 e145 rfl ?_
        refine ax_sipush dX12_lay_42 (v := nI 1000) (by decide) ?_
        refine ax_icmp_geT 69 dX12_lay_45 (by decide) (nI_le (by omega) (by omega)) ?_
        exact off (fun q => hl1 q.2)
    refine ax_iload_n dX12_lay_3 rfl ?_
    refine ax_if_ltF 75 dX12_lay_4 (by decide) hy ?_
    refine ax_lload_n dX12_lay_7 rfl ?_
    refine ax_iload_n dX12_lay_8 rfl ?_
    refine ax_lshr dX12_lay_9 ?_
    refine ax_l2i dX12_lay_10 ?_
    refine ax_sipush dX12_lay_11 (v := nI 255) (by decide) ?_
    refine ax_iand dX12_lay_14 ?_
    rw [byS hk8 hk]
    refine ax_istore dX12_lay_15 (Nat.le_of_ble_eq_true rfl) ?_
    by_cases h10 : byt x k = 10
    · refine ax_iload dX12_lay_17 rfl ?_
      refine ax_bipush dX12_lay_19 (v := nI 10) (by decide) ?_
      refine ax_icmp_eqT 38 dX12_lay_21 (by decide) (by rw [h10]) ?_
      exact inn (Or.inl h10)
    · refine ax_iload dX12_lay_17 rfl ?_
      refine ax_bipush dX12_lay_19 (v := nI 10) (by decide) ?_
      refine ax_icmp_eqF 38 dX12_lay_21 (by decide) (fun q => h10 ((nI_eq (by omega) (by omega)).mp q)) ?_
      by_cases h32 : 32 ≤ byt x k
      · refine ax_iload dX12_lay_24 rfl ?_
        refine ax_bipush dX12_lay_26 (v := nI 32) (by decide) ?_
        refine ax_icmp_ltF 69 dX12_lay_28 (by decide) (nI_nlt h32 (by omega)) ?_
        by_cases h126 : byt x k ≤ 126
        · refine ax_iload dX12_lay_31 rfl ?_
          refine ax_bipush dX12_lay_33 (v := nI 126) (by decide) ?_
          refine ax_icmp_gtF 69 dX12_lay_35 (by decide) (nI_nlt h126 (by omega)) ?_
          exact inn (Or.inr ⟨h32, h126⟩)
        · refine ax_iload dX12_lay_31 rfl ?_
          refine ax_bipush dX12_lay_33 (v := nI 126) (by decide) ?_
          refine ax_icmp_gtT 69 dX12_lay_35 (by decide) (nI_lt (by omega) (by omega)) ?_
          exact off (fun q => by omega)
      · refine ax_iload dX12_lay_24 rfl ?_
        refine ax_bipush dX12_lay_26 (v := nI 32) (by decide) ?_
        refine ax_icmp_ltT 69 dX12_lay_28 (by decide) (nI_lt (by omega) (by omega)) ?_
        exact off (fun q => by omega)
  refine ax_bipush dX12_lay_0 (v := nI 56) (by decide) ?_
  refine ax_istore_n dX12_lay_2 (Nat.le_of_ble_eq_true rfl) ?_
  refine one 56 (nI 56) none h tp (by decide) (by decide) (by decide) But.rf e145 hT (fun h1 hb1 e1 hT1 => ?_)
  refine one 48 (nI 56 - nI 8) _ h1 _ (by decide) (by decide) (by decide) hb1 e1 hT1 (fun h2 hb2 e2 hT2 => ?_)
  refine one 40 (nI 56 - nI 8 - nI 8) _ h2 _ (by decide) (by decide) (by decide) hb2 e2 hT2 (fun h3 hb3 e3 hT3 => ?_)
  refine one 32 (nI 56 - nI 8 - nI 8 - nI 8) _ h3 _ (by decide) (by decide) (by decide) hb3 e3 hT3 (fun h4 hb4 e4 hT4 => ?_)
  refine one 24 (nI 56 - nI 8 - nI 8 - nI 8 - nI 8) _ h4 _ (by decide) (by decide) (by decide) hb4 e4 hT4 (fun h5 hb5 e5 hT5 => ?_)
  refine one 16 (nI 56 - nI 8 - nI 8 - nI 8 - nI 8 - nI 8) _ h5 _ (by decide) (by decide) (by decide) hb5 e5 hT5 (fun h6 hb6 e6 hT6 => ?_)
  refine one 8 (nI 56 - nI 8 - nI 8 - nI 8 - nI 8 - nI 8 - nI 8) _ h6 _ (by decide) (by decide) (by decide) hb6 e6 hT6 (fun h7 hb7 e7 hT7 => ?_)
  refine one 0 (nI 56 - nI 8 - nI 8 - nI 8 - nI 8 - nI 8 - nI 8 - nI 8) _ h7 _ (by decide) (by decide) (by decide) hb7 e7 hT7 (fun h8 hb8 e8 hT8 => ?_)
  refine ax_iload_n dX12_lay_3 rfl ?_
  refine ax_if_ltT 75 dX12_lay_4 (by decide) (by decide) ?_
  exact ax_return dX12_lay_75 rfl (hq h8 hb8 e8 hT8)
theorem k_feed {a b c : Int64} {tp : List Nat} (hI : MoI h th (nI tp.length) N σ μ) (hT : TpM h tp) (hq : ∀ h', But h h' fdP → MoI h' 0 (nI (feed tp a b c).length) N σ μ → TpM h' (feed tp a b c) → Q (.inl (some (.int (nI (feed tp a b c).length)))) h') : X G (d + 1) mX12_feed 0 (ax_in 7 [.ref 145, .long a, .long b, .long c]) [] h Q := by
  obtain ⟨si, pt, fa, co, nm, rd, bc, bm, gg, F, S, O, A, e145, hB⟩ := hI
  refine ax_aload_n dX12_feed_0 rfl ?_
  refine ax_iconst dX12_feed_1 (v := nI 0) (by decide) ?_
  refine ax_putf dX12_feed_2 flX12_1 e145 (Nat.le_of_ble_eq_true rfl) (fun _ => ⟨rfl, rfl⟩) ?_
  refine ax_hp (h1 := ax_wr h 145 (eM 0 (nI tp.length) si pt fa co nm rd 0 0 (-1) (-1) bc bm gg)) rfl ?_
  have hb0 : But h (ax_wr h 145 (eM 0 (nI tp.length) si pt fa co nm rd 0 0 (-1) (-1) bc bm gg)) fdP := But.rf.wr (Or.inl rfl)
  have hT0 := hT.kept (h' := ax_wr h 145 (eM 0 (nI tp.length) si pt fa co nm rd 0 0 (-1) (-1) bc bm gg)) (ax_wr_ne (by decide))
  have e145 : (ax_wr h 145 (eM 0 (nI tp.length) si pt fa co nm rd 0 0 (-1) (-1) bc bm gg)).2.2 145 = some (eM 0 (nI tp.length) si pt fa co nm rd 0 0 (-1) (-1) bc bm gg) := ax_wr_eq
  generalize ax_wr h 145 (eM 0 (nI tp.length) si pt fa co nm rd 0 0 (-1) (-1) bc bm gg) = h1 at hb0 hT0 e145 ⊢
  refine ax_aload_n dX12_feed_5 rfl ?_
  refine ax_lload_n dX12_feed_6 rfl ?_
  refine ax_cV dX12_feed_7 mmX12_lay lkX12_7 miX12_lay msX12_lay (ax_recv_of e145 rfl) rfl rfl (Nat.le_of_ble_eq_true rfl) (Nat.le_of_ble_eq_true rfl) rfl rfl (k_lay e145 hT0 (fun h2 hb2 e145 hT2 => ⟨_, rfl, ?_⟩))
  refine ax_aload_n dX12_feed_10 rfl ?_
  refine ax_lload_n dX12_feed_11 rfl ?_
  refine ax_cV dX12_feed_12 mmX12_lay lkX12_7 miX12_lay msX12_lay (ax_recv_of e145 rfl) rfl rfl (Nat.le_of_ble_eq_true rfl) (Nat.le_of_ble_eq_true rfl) rfl rfl (k_lay e145 hT2 (fun h3 hb3 e145 hT3 => ⟨_, rfl, ?_⟩))
  refine ax_aload_n dX12_feed_15 rfl ?_
  refine ax_lload dX12_feed_16 rfl ?_
  refine ax_cV dX12_feed_18 mmX12_lay lkX12_7 miX12_lay msX12_lay (ax_recv_of e145 rfl) rfl rfl (Nat.le_of_ble_eq_true rfl) (Nat.le_of_ble_eq_true rfl) rfl rfl (k_lay e145 hT3 (fun h4 hb4 e145 hT4 => ⟨_, rfl, ?_⟩))
  have hbb := ((hb0.tr hb2).tr hb3).tr hb4
  refine ax_aload_n dX12_feed_21 rfl ?_
  refine ax_getf dX12_feed_22 flX12_11 e145 rfl ?_
  exact ax_ireturn dX12_feed_25 rfl (hq h4 hbb ⟨si, pt, fa, co, nm, rd, bc, bm, gg, F, S, O, A, e145, hB.kept (fun j z1 z2 => hbb.2.2 j (by unfold fdP; omega))⟩ hT4)
end MFE
