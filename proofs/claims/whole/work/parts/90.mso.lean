section MB7
variable {G : ax_G} {d : Nat} {h : ax_H} {Q : ax_O → ax_H → Prop} {N : Nt} {σ : Sd} {μ : Nat → Option Sd} {th ta : Int32}
theorem fln_sum {r m s : Nat} (hN : nOK N) : ∀ t, t ≤ nT N → sm (fln N σ r m s) t ≤ 999 * t
  | 0, _ => Nat.le_refl _
  | t + 1, ht => by
    have h1 := fln_sum hN t (by omega) (r := r) (m := m) (s := s)
    have h2 := fln_le (N := N) (σ := σ) (r := r) (m := m) (s := s) (t := t) hN (by omega)
    show sm (fln N σ r m s) t + fln N σ r m s t ≤ _
    omega
theorem k_isSo {r m : Nat} {si pt fa co nm rd bc bm : Int32} {gg : Int64} {F S O A : Nat → Int32} (hr : r < nR N) (hm : m < 2 ^ 31) (hN : nOK N) (hO : sOK N σ) (h7 : ∀ s, s < 5 → σ 7 s ≤ 9999) (hB : MoB h F S O A N σ μ) (e145 : h.2.2 145 = some (eM th ta si pt fa co nm rd 0 0 (-1) (-1) bc bm gg))
    (hq : ∀ h', But h h' mfP → MoB h' F S O A N σ μ → Q (.inl (some (.int (b1 (lvP N σ r m))))) h') : X G (d + 4) mX12_isSo 0 (ax_in 7 [.ref 145, .int (nI r), .int (nI m)]) [] h Q := by
  obtain ⟨hF, hFT, hL, hM, hR, hSt, hMk⟩ := id hB
  obtain ⟨f0, f1, f2, f3, fs, fr⟩ := id hF
  obtain ⟨hS, hSc, s7, s8⟩ := id hSt
  have hS5 := hN.1
  have hR10 := hN.2.2.1
  have hT6 := hN.2.2.2.1
  have e145h := e145
  have hT0 : F 3 + 0 = nI (nT N) := by rw [f3]; exact Int32.add_zero _
  have outer : ∀ (k i : Nat) (o5 o6 : Option Value) (h1 : ax_H), i + k = nS N → But h h1 mfP → MoB h1 F S O A N σ μ → X G (d + 4) mX12_isSo 5 [some (.ref 145), some (.int (nI r)), some (.int (nI m)), some (.int (b1 (∀ z, z < i → sm (fln N σ r m z) (nT N) = σ 7 z))), some (.int (nI i)), o5, o6] [] h1 Q := by
    intro k
    induction k with
    | zero =>
      intro i o5 o6 h1 hi hb hB1
      obtain rfl : i = nS N := by omega
      have e145 := (hb.2.2 145 (by unfold mfP; omega)).trans e145h
      refine ax_iload dX12_isSo_5 rfl ?_
      refine ax_aload_n dX12_isSo_7 rfl ?_
      refine ax_cV dX12_isSo_8 mmX12_stuffs lkX12_273 miX12_stuffs msX12_stuffs (ax_recv_of e145 rfl) rfl rfl (Nat.le_of_ble_eq_true rfl) (Nat.le_of_ble_eq_true rfl) rfl rfl (k_stuffs e145 hB1.2.2.2.1.1 ⟨_, rfl, ?_⟩)
      rw [f0]
      refine ax_icmp_geT 116 dX12_isSo_11 (by decide) (Int32.le_refl _) ?_
      refine ax_iload_n dX12_isSo_116 rfl ?_
      refine ax_zreturn dX12_isSo_117 rfl ?_ (hq h1 hb hB1)
      by_cases hc : ∀ z, z < nS N → sm (fln N σ r m z) (nT N) = σ 7 z
      · rw [b1_t hc]; exact Or.inr rfl
      · rw [b1_f hc]; exact Or.inl rfl
    | succ k ih =>
      intro i o5 o6 h1 hi hb hB1
      have his : i < nS N := by omega
      have inner : ∀ (n t : Nat) (h2 : ax_H), t + n = nT N → But h h2 mfP → MoB h2 F S O A N σ μ → X G (d + 4) mX12_isSo 20 [some (.ref 145), some (.int (nI r)), some (.int (nI m)), some (.int (b1 (∀ z, z < i → sm (fln N σ r m z) (nT N) = σ 7 z))), some (.int (nI i)), some (.int (nI (sm (fln N σ r m i) t))), some (.int (nI t))] [] h2 Q := by
        intro n
        induction n with
        | zero =>
          intro t h2 ht hb2 hB2
          obtain rfl : t = nT N := by omega
          have e145 := (hb2.2.2 145 (by unfold mfP; omega)).trans e145h
          have e159 := hB2.2.2.2.1.2.2.2.1
          have hsu := fln_sum (N := N) (σ := σ) (r := r) (m := m) (s := i) hN (nT N) (Nat.le_refl _)
          have h79 := h7 i (by omega)
          have nx : ∀ v, v = b1 (∀ z, z < i + 1 → sm (fln N σ r m z) (nT N) = σ 7 z) → X G (d + 4) mX12_isSo 109 [some (.ref 145), some (.int (nI r)), some (.int (nI m)), some (.int (b1 (∀ z, z < i → sm (fln N σ r m z) (nT N) = σ 7 z))), some (.int (nI i)), some (.int (nI (sm (fln N σ r m i) (nT N)))), some (.int (nI (nT N)))] [.int v] h2 Q := by
            intro v hv
            refine ax_istore_n dX12_isSo_109 (Nat.le_of_ble_eq_true rfl) ?_
            refine ax_iinc dX12_isSo_110 rfl (ax_inc 1) ?_
            refine ax_goto 5 dX12_isSo_113 (by decide) ?_
            rw [nI_add i 1, hv]
            exact ih (i + 1) _ _ h2 (by omega) hb2 hB2
          refine ax_iload dX12_isSo_20 rfl ?_
          refine ax_aload_n dX12_isSo_22 rfl ?_
          refine ax_cV dX12_isSo_23 mmX12_trades lkX12_276 miX12_trades msX12_trades (ax_recv_of e145 rfl) rfl rfl (Nat.le_of_ble_eq_true rfl) (Nat.le_of_ble_eq_true rfl) rfl rfl (k_trades (Or.inl rfl) e145 hB2.2.2.2.1.1 ⟨_, rfl, ?_⟩)
          rw [hT0]
          refine ax_icmp_geT 84 dX12_isSo_26 (by decide) (Int32.le_refl _) ?_
          by_cases hc : ∀ z, z < i → sm (fln N σ r m z) (nT N) = σ 7 z
          · have e1 := b1_t hc
            by_cases hd2 : sm (fln N σ r m i) (nT N) = σ 7 i
            · rw [e1] at nx ⊢
              refine ax_iload_n dX12_isSo_84 rfl ?_
              refine ax_if_eqF 108 dX12_isSo_85 (by decide) (by decide) ?_
              refine ax_iload dX12_isSo_88 rfl ?_
              refine ax_aload_n dX12_isSo_90 rfl ?_
              refine ax_getf dX12_isSo_91 flX12_99 e145 rfl ?_
              refine ax_sipush dX12_isSo_94 (v := nI 128) (by decide) ?_
              refine ax_iload dX12_isSo_97 rfl ?_
              refine ax_iadd dX12_isSo_99 ?_
              rw [nI_add 128 i]
              refine ax_iald dX12_isSo_100 e159 (ax_ix_nI (j := 128 + i) (by omega) (by decide)) ?_
              rw [s7 i (by omega)]
              refine ax_icmp_neF 108 dX12_isSo_101 (by decide) (by rw [hd2]) ?_
              refine ax_iconst dX12_isSo_104 (v := nI 1) (by decide) ?_
              refine ax_goto 109 dX12_isSo_105 (by decide) ?_
              refine nx _ (b1_t (fun z hz => ?_)).symm
              by_cases hzi : z = i
              · rw [hzi]; exact hd2
              · exact hc z (by omega)
            · rw [e1] at nx ⊢
              refine ax_iload_n dX12_isSo_84 rfl ?_
              refine ax_if_eqF 108 dX12_isSo_85 (by decide) (by decide) ?_
              refine ax_iload dX12_isSo_88 rfl ?_
              refine ax_aload_n dX12_isSo_90 rfl ?_
              refine ax_getf dX12_isSo_91 flX12_99 e145 rfl ?_
              refine ax_sipush dX12_isSo_94 (v := nI 128) (by decide) ?_
              refine ax_iload dX12_isSo_97 rfl ?_
              refine ax_iadd dX12_isSo_99 ?_
              rw [nI_add 128 i]
              refine ax_iald dX12_isSo_100 e159 (ax_ix_nI (j := 128 + i) (by omega) (by decide)) ?_
              rw [s7 i (by omega)]
              refine ax_icmp_neT 108 dX12_isSo_101 (by decide) (fun q => hd2 (nI_inj (by omega) (by omega) q)) ?_
              refine ax_iconst dX12_isSo_108 (v := nI 0) (by decide) ?_
              exact nx _ (b1_f (fun q => hd2 (q i (by omega)))).symm
          · rw [b1_f hc] at nx ⊢
            refine ax_iload_n dX12_isSo_84 rfl ?_
            refine ax_if_eqT 108 dX12_isSo_85 (by decide) rfl ?_
            refine ax_iconst dX12_isSo_108 (v := nI 0) (by decide) ?_
            exact nx _ (b1_f (fun q => hc (fun z hz => q z (by omega)))).symm
        | succ n ih2 =>
          intro t h2 ht hb2 hB2
          have htT : t < nT N := by omega
          have e145 := (hb2.2.2 145 (by unfold mfP; omega)).trans e145h
          have e151 := hB2.2.2.2.1.1
          have hfl : sm (fln N σ r m i) (t + 1) = sm (fln N σ r m i) t + fln N σ r m i t := rfl
          have nx : ∀ (v : Nat) (h3 : ax_H), v = fln N σ r m i t → But h h3 mfP → MoB h3 F S O A N σ μ → X G (d + 4) mX12_isSo 75 [some (.ref 145), some (.int (nI r)), some (.int (nI m)), some (.int (b1 (∀ z, z < i → sm (fln N σ r m z) (nT N) = σ 7 z))), some (.int (nI i)), some (.int (nI (sm (fln N σ r m i) t))), some (.int (nI t))] [.int (nI v), .int (nI (sm (fln N σ r m i) t))] h3 Q := by
            intro v h3 hv hb3 hB3
            refine ax_iadd dX12_isSo_75 ?_
            refine ax_istore dX12_isSo_76 (Nat.le_of_ble_eq_true rfl) ?_
            refine ax_iinc dX12_isSo_78 rfl (ax_inc 1) ?_
            refine ax_goto 20 dX12_isSo_81 (by decide) ?_
            rw [nI_add (sm (fln N σ r m i) t) v, nI_add t 1, hv, ← hfl]
            exact ih2 (t + 1) h3 (by omega) hb3 hB3
          have t2 : tdF F (-1) t 2 = nI (N.1 8 t) := hFT.td t htT 2 (by omega)
          have t3 : tdF F (-1) t 3 = nI (N.1 9 t) := hFT.td t htT 3 (by omega)
          obtain ⟨-, -, -, q8, q9, q99⟩ := hN.2.2.2.2.2.2.1 t htT
          have hsh := shock_le N σ r i
          have hmul := Nat.mul_le_mul_left (N.1 9 t) hsh
          refine ax_iload dX12_isSo_20 rfl ?_
          refine ax_aload_n dX12_isSo_22 rfl ?_
          refine ax_cV dX12_isSo_23 mmX12_trades lkX12_276 miX12_trades msX12_trades (ax_recv_of e145 rfl) rfl rfl (Nat.le_of_ble_eq_true rfl) (Nat.le_of_ble_eq_true rfl) rfl rfl (k_trades (Or.inl rfl) e145 e151 ⟨_, rfl, ?_⟩)
          rw [hT0]
          refine ax_icmp_geF 84 dX12_isSo_26 (by decide) (nI_ge (by omega) (by omega)) ?_
          refine ax_iload dX12_isSo_29 rfl ?_
          refine ax_iload_n dX12_isSo_31 rfl ?_
          refine ax_iload dX12_isSo_32 rfl ?_
          refine ax_ishr dX12_isSo_34 ?_
          refine ax_iconst dX12_isSo_35 (v := nI 1) (by decide) ?_
          refine ax_iand dX12_isSo_36 ?_
          rw [bit_at hm (by omega)]
          have hb2' : m / 2 ^ t % 2 < 2 := Nat.mod_lt _ (by decide)
          by_cases hbt : m / 2 ^ t % 2 = 1
          · refine ax_iconst dX12_isSo_37 (v := nI 1) (by decide) ?_
            refine ax_icmp_neF 74 dX12_isSo_38 (by decide) (by rw [hbt]) ?_
            refine ax_aload_n dX12_isSo_41 rfl ?_
            refine ax_iload dX12_isSo_42 rfl ?_
            refine ax_iconst dX12_isSo_44 (v := nI 2) (by decide) ?_
            refine ax_cV dX12_isSo_45 mmX12_tradeOf lkX12_294 miX12_tradeOf msX12_tradeOf (ax_recv_of e145 rfl) rfl rfl (Nat.le_of_ble_eq_true rfl) (Nat.le_of_ble_eq_true rfl) rfl rfl (k_tradeOf (i := 2) (by omega) (by omega) e145 e151 ⟨_, rfl, ?_⟩)
            rw [t2]
            by_cases hst : N.1 8 t = i
            · refine ax_iload dX12_isSo_48 rfl ?_
              refine ax_icmp_neF 74 dX12_isSo_50 (by decide) (by rw [hst]) ?_
              refine ax_aload_n dX12_isSo_53 rfl ?_
              refine ax_iload dX12_isSo_54 rfl ?_
              refine ax_iconst dX12_isSo_56 (v := nI 3) (by decide) ?_
              refine ax_cV dX12_isSo_57 mmX12_tradeOf lkX12_294 miX12_tradeOf msX12_tradeOf (ax_recv_of e145 rfl) rfl rfl (Nat.le_of_ble_eq_true rfl) (Nat.le_of_ble_eq_true rfl) rfl rfl (k_tradeOf (i := 3) (by omega) (by omega) e145 e151 ⟨_, rfl, ?_⟩)
              rw [t3]
              refine ax_aload_n dX12_isSo_60 rfl ?_
              refine ax_iload_n dX12_isSo_61 rfl ?_
              refine ax_iload dX12_isSo_62 rfl ?_
              refine ax_cV dX12_isSo_64 mmX12_shockOf lkX12_323 miX12_shockOf msX12_shockOf (ax_recv_of e145 rfl) rfl rfl (Nat.le_of_ble_eq_true rfl) (Nat.le_of_ble_eq_true rfl) rfl rfl (k_shockOf (d := d) hr his hN hO hF hL hB2.2.2.2.2.2.1.1 hB2.2.2.2.1 e145 (fun h3 hb3 hM3 => ⟨_, rfl, ?_⟩))
              refine ax_imul dX12_isSo_67 ?_
              rw [pk_mul (N.1 9 t) (shock N σ r i)]
              refine ax_bipush dX12_isSo_68 (v := nI 100) (by decide) ?_
              refine ax_idiv dX12_isSo_70 (by decide) ?_
              rw [pk_div (show N.1 9 t * shock N σ r i < 2 ^ 31 by omega) (show 0 < 100 by decide) (by decide)]
              refine ax_goto 75 dX12_isSo_71 (by decide) ?_
              exact nx _ h3 (by unfold fln; rw [if_pos ⟨hbt, hst⟩]) (hb2.tr hb3) (hB2.mf hb3 hM3)
            · refine ax_iload dX12_isSo_48 rfl ?_
              refine ax_icmp_neT 74 dX12_isSo_50 (by decide) (fun q => hst (nI_inj (by omega) (by omega) q)) ?_
              refine ax_iconst dX12_isSo_74 (v := nI 0) (by decide) ?_
              exact nx 0 h2 (by unfold fln; rw [if_neg (fun q => hst q.2)]) hb2 hB2
          · refine ax_iconst dX12_isSo_37 (v := nI 1) (by decide) ?_
            refine ax_icmp_neT 74 dX12_isSo_38 (by decide) (fun q => hbt (nI_inj (by omega) (by omega) q)) ?_
            refine ax_iconst dX12_isSo_74 (v := nI 0) (by decide) ?_
            exact nx 0 h2 (by unfold fln; rw [if_neg (fun q => hbt q.1)]) hb2 hB2
      have e145 := (hb.2.2 145 (by unfold mfP; omega)).trans e145h
      refine ax_iload dX12_isSo_5 rfl ?_
      refine ax_aload_n dX12_isSo_7 rfl ?_
      refine ax_cV dX12_isSo_8 mmX12_stuffs lkX12_273 miX12_stuffs msX12_stuffs (ax_recv_of e145 rfl) rfl rfl (Nat.le_of_ble_eq_true rfl) (Nat.le_of_ble_eq_true rfl) rfl rfl (k_stuffs e145 hB1.2.2.2.1.1 ⟨_, rfl, ?_⟩)
      rw [f0]
      refine ax_icmp_geF 116 dX12_isSo_11 (by decide) (nI_ge (by omega) (by omega)) ?_
      refine ax_iconst dX12_isSo_14 (v := nI 0) (by decide) ?_
      refine ax_istore dX12_isSo_15 (Nat.le_of_ble_eq_true rfl) ?_
      refine ax_iconst dX12_isSo_17 (v := nI 0) (by decide) ?_
      refine ax_istore dX12_isSo_18 (Nat.le_of_ble_eq_true rfl) ?_
      exact inner (nT N) 0 h1 (by omega) hb hB1
  refine ax_iconst dX12_isSo_0 (v := nI 1) (by decide) ?_
  refine ax_istore_n dX12_isSo_1 (Nat.le_of_ble_eq_true rfl) ?_
  refine ax_iconst dX12_isSo_2 (v := nI 0) (by decide) ?_
  refine ax_istore dX12_isSo_3 (Nat.le_of_ble_eq_true rfl) ?_
  have key := outer (nS N) 0 none none h (by omega) But.rf hB
  rw [b1_t (fun z hz => absurd hz (Nat.not_lt_zero _))] at key
  exact key
theorem wnt_n {r : Nat} : ∀ i, ((wnt N σ r i).2.1 = 0 ↔ (wnt N σ r i).1 = none) ∧ ∀ j, (wnt N σ r i).1 = some j → j < i
  | 0 => ⟨⟨fun _ => rfl, fun _ => rfl⟩, fun j hj => by cases hj⟩
  | i + 1 => by
    have ih := wnt_n (r := r) i
    unfold wnt
    by_cases hc : lvP N σ r i
    · rw [if_pos hc]
      refine ⟨⟨fun q => by have q' : (wnt N σ r i).2.1 + 1 = 0 := q; omega, fun q => ?_⟩, fun j hj => ?_⟩
      · have q' : (if (wnt N σ r i).2.1 = 0 then some i else (wnt N σ r i).1) = none := q
        by_cases hz : (wnt N σ r i).2.1 = 0
        · rw [if_pos hz] at q'; cases q'
        · rw [if_neg hz] at q'; exact absurd (ih.1.mpr q') hz
      · have q' : (if (wnt N σ r i).2.1 = 0 then some i else (wnt N σ r i).1) = some j := hj
        by_cases hz : (wnt N σ r i).2.1 = 0
        · rw [if_pos hz] at q'; cases q'; omega
        · rw [if_neg hz] at q'; have := ih.2 j q'; omega
    · rw [if_neg hc]
      exact ⟨ih.1, fun j hj => by have := ih.2 j hj; omega⟩
end MB7
