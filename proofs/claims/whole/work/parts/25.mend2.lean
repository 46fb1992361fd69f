section MR2
variable {G : ax_G} {d : Nat} {h : ax_H} {Q : ax_O → ax_H → Prop} {N : Nt} {σ : Sd}
/-- the holes of a road behind its mending with what lies there, stuffs below n -/
def mh (N : Nt) (σ : Sd) (ly : Nat → Nat) (r H : Nat) : Nat → Nat
  | 0 => H
  | n + 1 => mh N σ ly r H n - mend N σ r n (ly (5 * r + n)) * ly (5 * r + n)
def lyU (Lf : Nat → Int32) (ly : Nat → Nat) (y r kp n : Nat) : Nat → Int32 := fun c => if y < kp ∧ 50 * y + 5 * r ≤ c ∧ c < 50 * y + 5 * r + n then nI (ly (c - 50 * y)) else Lf c
theorem mh_le (ly : Nat → Nat) (r H : Nat) : ∀ n, mh N σ ly r H n ≤ H
  | 0 => Nat.le_refl _
  | n + 1 => Nat.le_trans (Nat.sub_le _ _) (mh_le ly r H n)
theorem mend_le (N : Nt) (σ : Sd) (r s p : Nat) : mend N σ r s p ≤ 99 := (cl_eq (a := 0) (by decide) (by decide) _).2.2
theorem max0 {a b : Nat} (ha : a < 2 ^ 30) (hb : b < 2 ^ 30) : (if (nI 0) < nI a - nI b then nI a - nI b else nI 0) = nI (a - b) := by
  rcases Nat.lt_or_ge a b with q | q
  · rw [if_neg (fun z => by have := pk_sneg hb q; exact absurd (Int32.lt_trans z this) (by decide)), show a - b = 0 by omega]
  · rw [pk_sub q]
    by_cases z : a - b = 0
    · rw [z]; simp
    · exact if_pos (nI_lt (by omega) (by omega))
theorem eIe {n : Nat} {f g : Nat → Int32} (hf : ∀ c, f c = g c) : some (eI n f) = some (eI n g) := by rw [show f = g from funext hf]
theorem c_mendRoad {k r y kp H0 : Nat} {ly ps su : Nat → Nat} {Hf Lf : Nat → Int32} {cm : Int32} (hk : k + 8 < 131) (hk1 : 106 ≤ k) (hr : r < nR N) (hkp : kp ≤ 40) (hy : y < 2 ^ 30) (hN : nOK N) (hL : Land h N) (hS : Seen h N σ) (e142 : h.2.2 142 = some (eYr cm)) (a143 : isA h 143 50 50 ly) (a144 : isA h 144 10 10 ps) (ek : h.2.2 k = some (eSt k (nI y) (nI kp))) (ek_1 : h.2.2 (k + 1) = some (eI 10 Hf)) (hH : Hf r = nI H0) (a2 : isA h (k + 2) 50 50 su) (ek_8 : h.2.2 (k + 8) = some (eI (kp * 50) Lf)) (b1 : H0 < 100000) (b2 : ps r < 2 ^ 20) (b3 : ∀ c, ly c < 2 ^ 20)
    (hq : ∀ h', But h h' (fun j => (132 ≤ j ∧ j ≤ 133) ∨ j = k + 1 ∨ j = k + 2 ∨ j = k + 8) → Seen h' N σ → h'.2.2 (k + 1) = some (eI 10 (upd Hf r (nI (mh N σ ly r (H0 + ps r / 10) (nS N))))) → isA h' (k + 2) 50 50 (dpL su ly r (nS N)) → h'.2.2 (k + 8) = some (eI (kp * 50) (lyU Lf ly y r kp (nS N))) → Q (.inl none) h') : X G (d + 3) mX10_mendRoad 0 (ax_in 6 [.ref 142, .ref k, .int (nI r)]) [] h Q := by
  have hS5 := hN.1
  have hR := hN.2.2.1
  obtain ⟨f143, e143, hf143⟩ := a143
  obtain ⟨f144, e144, hf144⟩ := a144
  have loop : ∀ (m i : Nat) (h1 : ax_H) (o5 : Option Value), i + m = nS N → But h h1 (fun j => (132 ≤ j ∧ j ≤ 133) ∨ j = k + 1 ∨ j = k + 2 ∨ j = k + 8) → Seen h1 N σ → h1.2.2 (k + 1) = some (eI 10 Hf) → isA h1 (k + 2) 50 50 (dpL su ly r i) → h1.2.2 (k + 8) = some (eI (kp * 50) (lyU Lf ly y r kp i)) → X G (d + 3) mX10_mendRoad 25 [some (.ref 142), some (.ref k), some (.int (nI r)), some (.int (nI (mh N σ ly r (H0 + ps r / 10) i))), some (.int (nI i)), o5] [] h1 Q := by
    intro m
    induction m with
    | zero =>
      intro i h1 o5 hi hb hS1 ek_1 a2 ek_8
      obtain rfl : i = nS N := by omega
      obtain ⟨⟨co, hl, e89, -⟩, -⟩ := hL
      have e89 := (hb.2.2 89 (by omega)).trans e89
      have e142 := (hb.2.2 142 (by omega)).trans e142
      have ek := (hb.2.2 k (by omega)).trans ek
      refine ax_iload dX10_mendRoad_25 rfl ?_
      refine ax_aload_n dX10_mendRoad_27 rfl ?_
      refine ax_getf dX10_mendRoad_28 flX10_18 e142 rfl ?_
      refine ax_getf dX10_mendRoad_31 flX10_121 e89 rfl ?_
      refine ax_icmp_geT 108 dX10_mendRoad_34 (by decide) (Int32.le_refl _) ?_
      refine ax_aload_n dX10_mendRoad_108 rfl ?_
      refine ax_getf dX10_mendRoad_109 flX10_127 ek rfl ?_
      refine ax_iload_n dX10_mendRoad_112 rfl ?_
      refine ax_iload_n dX10_mendRoad_113 rfl ?_
      refine ax_iast dX10_mendRoad_114 ek_1 (ax_ix_nI (by omega) (by decide)) ?_
      obtain ⟨s1, s2, s3, s4, s5, s6, g, s7, s8⟩ := hS1
      exact ax_return dX10_mendRoad_115 rfl (hq _ (hb.wr (by omega)) ⟨(ax_wr_ne (by omega)).trans s1, s2.kept (ax_wr_ne (by omega)), s3.kept (ax_wr_ne (by omega)), s4.kept (ax_wr_ne (by omega)), s5.kept (ax_wr_ne (by omega)), s6.kept (ax_wr_ne (by omega)), g, (ax_wr_ne (by omega)).trans s7, s8⟩ ax_wr_eq (a2.kept (ax_wr_ne (by omega))) ((ax_wr_ne (by omega)).trans ek_8))
    | succ m ih =>
      intro i h1 o5 hi hb hS1 ek_1 a2 ek_8
      have hL1 : Land h1 N := hL.kept (fun j z1 z2 => hb.2.2 j (by omega))
      obtain ⟨⟨co, hl, e89, -⟩, -⟩ := id hL1
      have e142 := (hb.2.2 142 (by omega)).trans e142
      have e143 := (hb.2.2 143 (by omega)).trans e143
      have ek := (hb.2.2 k (by omega)).trans ek
      have e131 := hS1.1
      have hpb := b3 (5 * r + i)
      have hmh := mh_le (N := N) (σ := σ) ly r (H0 + ps r / 10) i
      refine ax_iload dX10_mendRoad_25 rfl ?_
      refine ax_aload_n dX10_mendRoad_27 rfl ?_
      refine ax_getf dX10_mendRoad_28 flX10_18 e142 rfl ?_
      refine ax_getf dX10_mendRoad_31 flX10_121 e89 rfl ?_
      refine ax_icmp_geF 108 dX10_mendRoad_34 (by decide) (nI_ge (by omega) (by omega)) ?_
      refine ax_aload_n dX10_mendRoad_37 rfl ?_
      refine ax_getf dX10_mendRoad_38 flX10_9 e142 rfl ?_
      refine ax_iload_n dX10_mendRoad_41 rfl ?_
      refine ax_iload dX10_mendRoad_42 rfl ?_
      refine ax_cSN dX10_mendRoad_44 mmX11_cell lnX10_112 mtX11_cell rfl rfl (Nat.le_of_ble_eq_true rfl) (Nat.le_of_ble_eq_true rfl) rfl rfl (c_cellN ⟨_, rfl, ?_⟩)
      refine ax_iald dX10_mendRoad_47 e143 (ax_ix_nI (by omega) (by decide)) ?_
      rw [hf143 _ (by omega)]
      refine ax_istore dX10_mendRoad_48 (Nat.le_of_ble_eq_true rfl) ?_
      refine ax_iload dX10_mendRoad_50 rfl ?_
      have tail : ∀ (h2 : ax_H) (a3 : isA h2 (k + 2) 50 50 (dpL su ly r (i + 1))) (hb2 : But h h2 (fun j => (132 ≤ j ∧ j ≤ 133) ∨ j = k + 1 ∨ j = k + 2 ∨ j = k + 8)) (hS2 : Seen h2 N σ) (e1 : h2.2.2 (k + 1) = some (eI 10 Hf)) (e8 : h2.2.2 (k + 8) = some (eI (kp * 50) (lyU Lf ly y r kp i))), X G (d + 3) mX10_mendRoad 93 [some (.ref 142), some (.ref k), some (.int (nI r)), some (.int (nI (mh N σ ly r (H0 + ps r / 10) (i + 1)))), some (.int (nI i)), some (.int (nI (ly (5 * r + i))))] [] h2 Q := by
        intro h2 a3 hb2 hS2 e1 e8
        have ek : h2.2.2 k = some (eSt k (nI y) (nI kp)) := (hb2.2.2 k (by omega)).trans ((hb.2.2 k (by omega)).symm.trans ek)
        refine ax_aload_n dX10_mendRoad_93 rfl ?_
        refine ax_iload_n dX10_mendRoad_94 rfl ?_
        refine ax_iload dX10_mendRoad_95 rfl ?_
        refine ax_iload dX10_mendRoad_97 rfl ?_
        refine ax_cV dX10_mendRoad_99 mmX3_keepLayer lkX10_146 miX3_keepLayer msX3_keepLayer (ax_recv_of ek rfl) rfl rfl (Nat.le_of_ble_eq_true rfl) (Nat.le_of_ble_eq_true rfl) rfl rfl (c_keepLayer (y := y) (kp := kp) ek e8 rfl hkp hy (by omega) (by omega) ⟨_, rfl, ?_⟩)
        refine ax_iinc dX10_mendRoad_102 rfl (ax_inc 1) ?_
        refine ax_goto 25 dX10_mendRoad_105 (by decide) ?_
        rw [nI_add]
        refine ih (i + 1) _ _ (by omega) ?_ ?_ ?_ ?_ ?_
        · split
          · exact hb2.wr (by omega)
          · exact hb2
        · split
          · obtain ⟨s1, s2, s3, s4, s5, s6, g, s7, s8⟩ := hS2
            exact ⟨(ax_wr_ne (by omega)).trans s1, s2.kept (ax_wr_ne (by omega)), s3.kept (ax_wr_ne (by omega)), s4.kept (ax_wr_ne (by omega)), s5.kept (ax_wr_ne (by omega)), s6.kept (ax_wr_ne (by omega)), g, (ax_wr_ne (by omega)).trans s7, s8⟩
          · exact hS2
        · split
          · exact (ax_wr_ne (by omega)).trans e1
          · exact e1
        · split
          · exact a3.kept (ax_wr_ne (by omega))
          · exact a3
        · by_cases hyk : y < kp
          · rw [if_pos hyk, ax_wr_eq]
            refine eIe fun c => ?_
            simp only [upd, lyU]
            by_cases hc : c = 50 * y + (5 * r + i)
            · rw [if_pos hc, if_pos (by omega), hc, show 50 * y + (5 * r + i) - 50 * y = 5 * r + i by omega]
            · rw [if_neg hc]
              by_cases hc2 : y < kp ∧ 50 * y + 5 * r ≤ c ∧ c < 50 * y + 5 * r + i
              · rw [if_pos hc2, if_pos (by omega)]
              · rw [if_neg hc2, if_neg (by omega)]
          · rw [if_neg hyk, e8]
            refine eIe fun c => ?_
            simp only [lyU]
            rw [if_neg (by omega), if_neg (by omega)]
      by_cases hz : ly (5 * r + i) = 0
      · rw [hz]
        refine ax_if_leT 93 dX10_mendRoad_52 (by decide) (by decide) ?_
        have := tail h1 (by
          rw [← dpL_s, hz]
          obtain ⟨f, e, q⟩ := a2
          refine ⟨f, e, fun j hj => ?_⟩
          rw [q j hj]
          simp only [adN]
          split
          · rename_i hj2; rw [hj2]; rfl
          · rfl) hb hS1 ek_1 ek_8
        rw [show mh N σ ly r (H0 + ps r / 10) (i + 1) = mh N σ ly r (H0 + ps r / 10) i by show _ - _ * ly (5 * r + i) = _; rw [hz]; omega, hz] at this
        exact this
      · refine ax_if_leF 93 dX10_mendRoad_52 (by decide) (nI_nle (by omega) (by omega)) ?_
        refine ax_iconst dX10_mendRoad_55 (v := nI 0) (by decide) ?_
        refine ax_iload_n dX10_mendRoad_56 rfl ?_
        refine ax_aload_n dX10_mendRoad_57 rfl ?_
        refine ax_getf dX10_mendRoad_58 flX10_22 e142 rfl ?_
        refine ax_iload_n dX10_mendRoad_61 rfl ?_
        refine ax_iload dX10_mendRoad_62 rfl ?_
        refine ax_iload dX10_mendRoad_64 rfl ?_
        refine ax_cV dX10_mendRoad_66 mmX4_mendOf lkX10_136 miX4_mendOf msX4_mendOf (ax_recv_of e131 rfl) rfl rfl (Nat.le_of_ble_eq_true rfl) (Nat.le_of_ble_eq_true rfl) rfl rfl (c_mendOf (p := ly (5 * r + i)) hr (by omega) hN hL1 hS1 (fun h2 hs2 hS2 => ⟨_, rfl, ?_⟩))
        refine ax_iload dX10_mendRoad_69 rfl ?_
        refine ax_imul dX10_mendRoad_71 ?_
        rw [pk_mul]
        have hm := mend_le N σ r i (ly (5 * r + i))
        have hmm := Nat.mul_le_mul hm (Nat.le_of_lt hpb)
        refine ax_isub dX10_mendRoad_72 ?_
        refine ax_mmax dX10_mendRoad_73 lkX10_140 max_w2 max_w3 max_w4 rfl (Nat.le_of_ble_eq_true rfl) (by omega) ?_
        rw [max0 (by omega) (by omega)]
        have kp2 : ∀ j, (j < 132 ∨ 133 < j) → h2.2.2 j = h1.2.2 j := fun j z => hs2.2.2 j z
        obtain ⟨g2, ek_2, hg2⟩ := a2.kept (kp2 (k + 2) (by omega))
        have ek' := (kp2 k (by omega)).trans ek
        refine ax_istore_n dX10_mendRoad_76 (Nat.le_of_ble_eq_true rfl) ?_
        refine ax_aload_n dX10_mendRoad_77 rfl ?_
        refine ax_getf dX10_mendRoad_78 flX10_143 ek' rfl ?_
        refine ax_iload_n dX10_mendRoad_81 rfl ?_
        refine ax_iload dX10_mendRoad_82 rfl ?_
        refine ax_cSN dX10_mendRoad_84 mmX11_cell lnX10_112 mtX11_cell rfl rfl (Nat.le_of_ble_eq_true rfl) (Nat.le_of_ble_eq_true rfl) rfl rfl (c_cellN ⟨_, rfl, ?_⟩)
        refine ax_dup2 dX10_mendRoad_87 rfl rfl ?_
        refine ax_iald dX10_mendRoad_88 ek_2 (ax_ix_nI (by omega) (by decide)) ?_
        refine ax_iload dX10_mendRoad_89 rfl ?_
        refine ax_iadd dX10_mendRoad_91 ?_
        refine ax_iast dX10_mendRoad_92 ek_2 (ax_ix_nI (by omega) (by decide)) ?_
        have hb2 : But h h2 (fun j => (132 ≤ j ∧ j ≤ 133) ∨ j = k + 1 ∨ j = k + 2 ∨ j = k + 8) := hb.tr (hs2.but (fun j z1 z2 => by omega))
        obtain ⟨s1, s2, s3, s4, s5, s6, g, s7, s8⟩ := hS2
        refine tail _ ⟨_, ax_wr_eq, ?_⟩ (hb2.wr (by omega)) ⟨(ax_wr_ne (by omega)).trans s1, s2.kept (ax_wr_ne (by omega)), s3.kept (ax_wr_ne (by omega)), s4.kept (ax_wr_ne (by omega)), s5.kept (ax_wr_ne (by omega)), s6.kept (ax_wr_ne (by omega)), g, (ax_wr_ne (by omega)).trans s7, s8⟩ ((ax_wr_ne (by omega)).trans ((kp2 _ (by omega)).trans ek_1)) ((ax_wr_ne (by omega)).trans ((kp2 _ (by omega)).trans ek_8))
        rw [← dpL_s]; exact isA_ad hg2 (by omega)
  refine ax_aload_n dX10_mendRoad_0 rfl ?_
  refine ax_getf dX10_mendRoad_1 flX10_127 ek rfl ?_
  refine ax_iload_n dX10_mendRoad_4 rfl ?_
  refine ax_iald dX10_mendRoad_5 ek_1 (ax_ix_nI (by omega) (by decide)) ?_
  rw [hH]
  refine ax_aload_n dX10_mendRoad_6 rfl ?_
  refine ax_getf dX10_mendRoad_7 flX10_15 e142 rfl ?_
  refine ax_iload_n dX10_mendRoad_10 rfl ?_
  refine ax_iald dX10_mendRoad_11 e144 (ax_ix_nI (by omega) (by decide)) ?_
  rw [hf144 _ (by omega)]
  refine ax_bipush dX10_mendRoad_12 (v := nI 10) (by decide) ?_
  refine ax_idiv dX10_mendRoad_14 (by decide) ?_
  rw [pk_div (by omega) (by decide) (by decide)]
  refine ax_iadd dX10_mendRoad_15 ?_
  rw [nI_add]
  refine ax_ldc dX10_mendRoad_16 cnX10_130 ?_
  refine ax_mmin dX10_mendRoad_18 lkX10_131 min_w2 min_w3 min_w4 rfl (Nat.le_of_ble_eq_true rfl) (by omega) ?_
  rw [if_neg (show ¬ (999999 : Int32) < nI (H0 + ps r / 10) from nI_nlt (a := 999999) (by omega) (by omega))]
  refine ax_istore_n dX10_mendRoad_21 (Nat.le_of_ble_eq_true rfl) ?_
  refine ax_iconst dX10_mendRoad_22 (v := nI 0) (by decide) ?_
  refine ax_istore dX10_mendRoad_23 (Nat.le_of_ble_eq_true rfl) ?_
  refine loop (nS N) 0 h none (by omega) But.rf hS ek_1 (by rw [dpL_0]; exact a2) ?_
  rw [ek_8]
  refine eIe fun c => ?_
  simp only [lyU]
  rw [if_neg (by omega)]
end MR2
