section MB8
variable {G : ax_G} {d : Nat} {h : ax_H} {Q : ax_O → ax_H → Prop} {N : Nt} {σ : Sd} {μ : Nat → Option Sd} {th ta : Int32}
theorem k_went {x w : Int32} (hN : nOK N) (hO : sOK N σ) (h7 : ∀ s, s < 5 → σ 7 s ≤ 9999) (hI : MoI h th ta N σ μ) (hq : ∀ h', But h h' moP → MoI h' 0 ta N σ μ → Q (.inl (some (.int (qWent N σ x w)))) h') : X G (d + 5) mX12_went 0 (ax_in 7 [.ref 145, .int x, .int w]) [] h Q := by
  obtain ⟨si, pt, fa, co, nm, rd, bc, bm, gg, F, S, O, A, e145, hB⟩ := hI
  refine ax_aload_n dX12_went_0 rfl ?_
  refine ax_iconst dX12_went_1 (v := nI 0) (by decide) ?_
  refine ax_putf dX12_went_2 flX12_1 e145 (Nat.le_of_ble_eq_true rfl) (fun _ => ⟨rfl, rfl⟩) ?_
  refine ax_hp (h1 := ax_wr h 145 (eM 0 ta si pt fa co nm rd 0 0 (-1) (-1) bc bm gg)) rfl ?_
  have hb0 : But h (ax_wr h 145 (eM 0 ta si pt fa co nm rd 0 0 (-1) (-1) bc bm gg)) moP := But.rf.wr (Or.inl rfl)
  have hB := hB.kept (h' := ax_wr h 145 (eM 0 ta si pt fa co nm rd 0 0 (-1) (-1) bc bm gg)) (fun j z1 z2 => ax_wr_ne (by omega))
  have e145 : (ax_wr h 145 (eM 0 ta si pt fa co nm rd 0 0 (-1) (-1) bc bm gg)).2.2 145 = some (eM 0 ta si pt fa co nm rd 0 0 (-1) (-1) bc bm gg) := ax_wr_eq
  generalize ax_wr h 145 (eM 0 ta si pt fa co nm rd 0 0 (-1) (-1) bc bm gg) = h1 at hb0 hB e145 ⊢
  have hI1 : MoI h1 0 ta N σ μ := ⟨si, pt, fa, co, nm, rd, bc, bm, gg, F, S, O, A, e145, hB⟩
  obtain ⟨hF, hFT, hL, hM, hR, hSt, hMk⟩ := id hB
  obtain ⟨e151, e152, e153, e159, a157, a158⟩ := id hM
  obtain ⟨hS, hSc, s7, s8⟩ := id hSt
  obtain ⟨f0, f1, f2, f3, fs, fr⟩ := id hF
  have hS5 := hN.1
  have hP7 := hN.2.1
  have hR10 := hN.2.2.1
  have hT6 := hN.2.2.2.1
  unfold qWent at hq
  have hT0 : F 3 + 0 = nI (nT N) := by rw [f3]; exact Int32.add_zero _
  have h64 := p64 hT6
  refine ax_aload_n dX12_went_5 rfl ?_
  refine ax_iload_n dX12_went_6 rfl ?_
  refine ax_cV dX12_went_7 mmX12_isRoad lkX12_337 miX12_isRoad msX12_isRoad (ax_recv_of e145 rfl) rfl rfl (Nat.le_of_ble_eq_true rfl) (Nat.le_of_ble_eq_true rfl) rfl rfl (k_isRoad e145 e151 ⟨_, rfl, ?_⟩)
  rw [f2]
  rcases ix_cases (n := nR N) (by omega) x with ⟨hs, hb, -⟩ | ⟨r, hr, rfl, hs, hb⟩
  · rw [hs] at hq
    rw [hb]
    refine ax_if_eqT 22 dX12_went_10 (by decide) rfl ?_
    refine ax_iconst dX12_went_22 (v := -1) (by decide) ?_
    exact ax_ireturn dX12_went_23 rfl (hq h1 hb0 hI1)
  · rw [hs] at hq
    rw [hb]
    refine ax_if_eqF 22 dX12_went_10 (by decide) (by decide) ?_
    refine ax_iload_n dX12_went_13 rfl ?_
    refine ax_iconst dX12_went_14 (v := nI 0) (by decide) ?_
    refine ax_iconst dX12_went_15 (v := nI 2) (by decide) ?_
    refine ax_cS dX12_went_16 mmX12_within lkX12_333 mtX12_within rfl rfl (Nat.le_of_ble_eq_true rfl) (Nat.le_of_ble_eq_true rfl) rfl rfl (k_within ⟨_, rfl, ?_⟩)
    rcases wi_cases (b := 2) (by decide) w with ⟨hw, hb⟩ | ⟨j, hj, rfl, hw, hb⟩
    · rw [hw] at hq
      rw [hb]
      refine ax_if_neF 24 dX12_went_19 (by decide) rfl ?_
      refine ax_iconst dX12_went_22 (v := -1) (by decide) ?_
      exact ax_ireturn dX12_went_23 rfl (hq h1 hb0 hI1)
    · rw [hw] at hq
      rw [hb]
      dsimp only at hq
      have loop : ∀ (m i : Nat) (h2 : ax_H), i + m = 2 ^ nT N → But h1 h2 mfP → MoB h2 F S O A N σ μ → X G (d + 5) mX12_went 42 [some (.ref 145), some (.int (nI r)), some (.int (nI j)), some (.int (on (wnt N σ r i).1)), some (.int (nI (wnt N σ r i).2.1)), some (.int (wnt N σ r i).2.2), some (.int (nI i))] [] h2 Q := by
        intro m
        induction m with
        | zero =>
          intro i h2 hi hbb hB2
          obtain rfl : i = 2 ^ nT N := by omega
          have e145 := (hbb.2.2 145 (by unfold mfP; omega)).trans e145
          have hq2 := hq h2 (hb0.tr (hbb.wide (fun j z => by unfold mfP at z; unfold moP; omega))) ⟨si, pt, fa, co, nm, rd, bc, bm, gg, F, S, O, A, e145, hB2⟩
          have hle := wnt_le (N := N) (σ := σ) (r := r) (2 ^ nT N)
          refine ax_iload dX12_went_42 rfl ?_
          refine ax_iconst dX12_went_44 (v := nI 1) (by decide) ?_
          refine ax_aload_n dX12_went_45 rfl ?_
          refine ax_cV dX12_went_46 mmX12_trades lkX12_276 miX12_trades msX12_trades (ax_recv_of e145 rfl) rfl rfl (Nat.le_of_ble_eq_true rfl) (Nat.le_of_ble_eq_true rfl) rfl rfl (k_trades (Or.inl rfl) e145 hB2.2.2.2.1.1 ⟨_, rfl, ?_⟩)
          rw [hT0]
          refine ax_ishl dX12_went_49 ?_
          rw [shl1 hT6]
          refine ax_icmp_geT 90 dX12_went_50 (by decide) (Int32.le_refl _) ?_
          by_cases hz : (wnt N σ r (2 ^ nT N)).2.1 = 0
          · rw [if_pos hz] at hq2
            refine ax_iload dX12_went_90 rfl ?_
            refine ax_if_neF 99 dX12_went_92 (by decide) (by rw [hz]; rfl) ?_
            refine ax_iconst dX12_went_95 (v := -1) (by decide) ?_
            refine ax_goto 119 dX12_went_96 (by decide) ?_
            exact ax_ireturn dX12_went_119 rfl hq2
          · rw [if_neg hz] at hq2
            refine ax_iload dX12_went_90 rfl ?_
            refine ax_if_neT 99 dX12_went_92 (by decide) (nI_ne0 (by omega) (by omega)) ?_
            rcases (show j = 0 ∨ j = 1 ∨ j = 2 by omega) with rfl | rfl | rfl
            · rw [if_pos rfl] at hq2
              refine ax_iload_n dX12_went_99 rfl ?_
              refine ax_if_neF 107 dX12_went_100 (by decide) rfl ?_
              refine ax_iload_n dX12_went_103 rfl ?_
              refine ax_goto 119 dX12_went_104 (by decide) ?_
              exact ax_ireturn dX12_went_119 rfl hq2
            · rw [if_neg (by decide), if_pos rfl] at hq2
              refine ax_iload_n dX12_went_99 rfl ?_
              refine ax_if_neT 107 dX12_went_100 (by decide) (by decide) ?_
              refine ax_iload_n dX12_went_107 rfl ?_
              refine ax_iconst dX12_went_108 (v := nI 1) (by decide) ?_
              refine ax_icmp_neF 117 dX12_went_109 (by decide) rfl ?_
              refine ax_iload dX12_went_112 rfl ?_
              refine ax_goto 119 dX12_went_114 (by decide) ?_
              exact ax_ireturn dX12_went_119 rfl hq2
            · rw [if_neg (by decide), if_neg (by decide)] at hq2
              refine ax_iload_n dX12_went_99 rfl ?_
              refine ax_if_neT 107 dX12_went_100 (by decide) (by decide) ?_
              refine ax_iload_n dX12_went_107 rfl ?_
              refine ax_iconst dX12_went_108 (v := nI 1) (by decide) ?_
              refine ax_icmp_neT 117 dX12_went_109 (by decide) (by decide) ?_
              refine ax_iload dX12_went_117 rfl ?_
              exact ax_ireturn dX12_went_119 rfl hq2
        | succ m ih =>
          intro i h2 hi hbb hB2
          have e145 := (hbb.2.2 145 (by unfold mfP; omega)).trans e145
          have ihn := ih (i + 1)
          have hwn := wnt_n (N := N) (σ := σ) (r := r) i
          refine ax_iload dX12_went_42 rfl ?_
          refine ax_iconst dX12_went_44 (v := nI 1) (by decide) ?_
          refine ax_aload_n dX12_went_45 rfl ?_
          refine ax_cV dX12_went_46 mmX12_trades lkX12_276 miX12_trades msX12_trades (ax_recv_of e145 rfl) rfl rfl (Nat.le_of_ble_eq_true rfl) (Nat.le_of_ble_eq_true rfl) rfl rfl (k_trades (Or.inl rfl) e145 hB2.2.2.2.1.1 ⟨_, rfl, ?_⟩)
          rw [hT0]
          refine ax_ishl dX12_went_49 ?_
          rw [shl1 hT6]
          refine ax_icmp_geF 90 dX12_went_50 (by decide) (nI_ge (by omega) (by omega)) ?_
          refine ax_aload_n dX12_went_53 rfl ?_
          refine ax_iload_n dX12_went_54 rfl ?_
          refine ax_iload dX12_went_55 rfl ?_
          refine ax_cV dX12_went_57 mmX12_isSo lkX12_368 miX12_isSo msX12_isSo (ax_recv_of e145 rfl) rfl rfl (Nat.le_of_ble_eq_true rfl) (Nat.le_of_ble_eq_true rfl) rfl rfl (k_isSo (d := d) hr (by omega) hN hO h7 hB2 e145 (fun h3 hb3 hB3 => ⟨_, rfl, ?_⟩))
          by_cases hc : lvP N σ r i
          · have hst : wnt N σ r (i + 1) = ((if (wnt N σ r i).2.1 = 0 then some i else (wnt N σ r i).1), (wnt N σ r i).2.1 + 1, (wnt N σ r i).2.2 &&& nI i) := if_pos hc
            rw [hst] at ihn
            rw [b1_t hc]
            have nx : ∀ v : Int32, v = on (if (wnt N σ r i).2.1 = 0 then some i else (wnt N σ r i).1) → X G (d + 5) mX12_went 73 [some (.ref 145), some (.int (nI r)), some (.int (nI j)), some (.int (on (wnt N σ r i).1)), some (.int (nI (wnt N σ r i).2.1)), some (.int (wnt N σ r i).2.2), some (.int (nI i))] [.int v] h3 Q := by
              intro v hv
              refine ax_istore_n dX12_went_73 (Nat.le_of_ble_eq_true rfl) ?_
              refine ax_iload dX12_went_74 rfl ?_
              refine ax_iload dX12_went_76 rfl ?_
              refine ax_iand dX12_went_78 ?_
              refine ax_istore dX12_went_79 (Nat.le_of_ble_eq_true rfl) ?_
              refine ax_iinc dX12_went_81 rfl (ax_inc 1) ?_
              refine ax_iinc dX12_went_84 rfl (ax_inc 1) ?_
              refine ax_goto 42 dX12_went_87 (by decide) ?_
              rw [nI_add i 1, nI_add (wnt N σ r i).2.1 1, hv]
              exact ihn h3 (by omega) (hbb.tr hb3) hB3
            refine ax_if_eqF 84 dX12_went_60 (by decide) (by decide) ?_
            by_cases hz : (wnt N σ r i).2.1 = 0
            · rw [if_pos hz] at nx
              have hn := hwn.1.mp hz
              rw [hn] at nx ⊢
              refine ax_iload_n dX12_went_63 rfl ?_
              refine ax_if_geF 72 dX12_went_64 (by decide) (show ¬ (0 : Int32) ≤ -1 by decide) ?_
              refine ax_iload dX12_went_67 rfl ?_
              refine ax_goto 73 dX12_went_69 (by decide) ?_
              exact nx _ rfl
            · rw [if_neg hz] at nx
              cases hn : (wnt N σ r i).1 with
              | none => exact absurd (hwn.1.mpr hn) hz
              | some a =>
                have ha := hwn.2 a hn
                rw [hn] at nx
                refine ax_iload_n dX12_went_63 rfl ?_
                refine ax_if_geT 72 dX12_went_64 (by decide) (show (0 : Int32) ≤ nI a from nI_pos' (by omega)) ?_
                refine ax_iload_n dX12_went_72 rfl ?_
                exact nx _ rfl
          · have hst : wnt N σ r (i + 1) = wnt N σ r i := if_neg hc
            rw [hst] at ihn
            rw [b1_f hc]
            refine ax_if_eqT 84 dX12_went_60 (by decide) rfl ?_
            refine ax_iinc dX12_went_84 rfl (ax_inc 1) ?_
            refine ax_goto 42 dX12_went_87 (by decide) ?_
            rw [nI_add i 1]
            exact ihn h3 (by omega) (hbb.tr hb3) hB3
      refine ax_if_neT 24 dX12_went_19 (by decide) (by decide) ?_
      refine ax_iconst dX12_went_24 (v := -1) (by decide) ?_
      refine ax_istore_n dX12_went_25 (Nat.le_of_ble_eq_true rfl) ?_
      refine ax_iconst dX12_went_26 (v := nI 0) (by decide) ?_
      refine ax_istore dX12_went_27 (Nat.le_of_ble_eq_true rfl) ?_
      refine ax_iconst dX12_went_29 (v := nI 1) (by decide) ?_
      refine ax_aload_n dX12_went_30 rfl ?_
      refine ax_cV dX12_went_31 mmX12_trades lkX12_276 miX12_trades msX12_trades (ax_recv_of e145 rfl) rfl rfl (Nat.le_of_ble_eq_true rfl) (Nat.le_of_ble_eq_true rfl) rfl rfl (k_trades (Or.inl rfl) e145 e151 ⟨_, rfl, ?_⟩)
      rw [hT0]
      refine ax_ishl dX12_went_34 ?_
      refine ax_iconst dX12_went_35 (v := nI 1) (by decide) ?_
      refine ax_isub dX12_went_36 ?_
      refine ax_istore dX12_went_37 (Nat.le_of_ble_eq_true rfl) ?_
      refine ax_iconst dX12_went_39 (v := nI 0) (by decide) ?_
      refine ax_istore dX12_went_40 (Nat.le_of_ble_eq_true rfl) ?_
      exact loop (2 ^ nT N) 0 h1 (by omega) But.rf hB
end MB8
