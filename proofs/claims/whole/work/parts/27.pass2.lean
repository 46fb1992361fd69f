section PS2
variable {G : ax_G} {d : Nat} {h : ax_H} {Q : ax_O → ax_H → Prop} {N : Nt} {σ : Sd}
theorem rf_lt {kp : Nat} {y : YA} {sw : Option Nat} {b : Nat} (hp : ∀ c, σ 3 c ≤ b) : ∀ (i c : Nat), (rf N σ kp y sw i).1 c ≤ y.2.1 c + b * i
  | 0, c => Nat.le_refl _
  | i + 1, c => by
    have ih := rf_lt (kp := kp) (y := y) (sw := sw) hp i c
    have h1 := hp c
    show swp sw i (dpL (rf N σ kp y sw i).1 (σ 3) i (nS N)) c ≤ _
    rw [Nat.mul_succ]
    have h2 : dpL (rf N σ kp y sw i).1 (σ 3) i (nS N) c ≤ y.2.1 c + (b * i + b) := by
      unfold dpL
      split <;> omega
    unfold swp swL
    split
    · dsimp only; split <;> omega
    · exact h2
theorem rf_h {kp : Nat} {y : YA} {sw : Option Nat} : ∀ (i r : Nat), i ≤ r → (rf N σ kp y sw i).2.2.2.1 r = σ 1 r
  | 0, r, _ => rfl
  | i + 1, r, hr => by
    show upN (rf N σ kp y sw i).2.2.2.1 i _ r = _
    unfold upN
    rw [if_neg (by omega)]
    exact rf_h i r (by omega)
/-- a year passes over a State -/
theorem c_pass {k kp tk T : Nat} {tr : Nat → Nat → Nat} {sw : Option Nat} (hk : k = 106 ∨ k = 115) (hkp : kp ≤ 40) (hk2 : tk = 98 ∨ tk = 124) (hsw : ∀ r, sw = some r → r < 100) (htr : trOK N T tr) (hN : nOK N) (hO : sOK N σ) (hpu : ∀ c, σ 3 c ≤ 198) (hy : σ 0 0 < 2 ^ 29) (hL : Land h N) (hT : TrIs h tk T tr) (hE : StIs h k kp N σ) (hS : Scr h)
    (hq : ∀ h', But h h' (paP k) → Scr h' → StIs h' k kp N (yS N σ kp tr T sw) → h'.2.2 142 = some (eYr (nI (tf N σ tr T).2.2.2.2.2)) → Q (.inl none) h') : X G (d + 4) mX10_pass 0 (ax_in 5 [.ref 142, .ref k, .ref tk, .int (on sw)]) [] h Q := by
  have hk' : 106 ≤ k ∧ k ≤ 115 := by omega
  have hR := hN.2.2.1
  have hS5 := hN.1
  refine c_pass1 hk' hk2 htr hN hO hL hT hE (fun h0 hb0 hS0 hW0 e142 a144 a143 a4 a5 a6 hst => ?_) hS
  obtain ⟨ek0, ⟨Hf, e1, hH⟩, a2, a3, -, -, -, a7, ⟨Lf, e8, hLf⟩⟩ := id hE
  have htl := tf_le (N := N) (σ := σ) T (fun t ht => (htr.2 t ht).2.2.2.1)
  have hT6 := htr.1
  have loop : ∀ (m i : Nat) (h1 : ax_H) (Hf1 Lf1 : Nat → Int32), i + m = nR N → But h h1 (paP k) → Seen h1 N σ → WfIs h1 → h1.2.2 142 = some (eYr (nI (tf N σ tr T).2.2.2.2.2)) → isA h1 144 10 10 (tf N σ tr T).1 → isA h1 143 50 50 (rf N σ kp (tf N σ tr T) sw i).1 → isA h1 (k + 4) 5 5 (rf N σ kp (tf N σ tr T) sw i).2.1 → isA h1 (k + 2) 50 50 (rf N σ kp (tf N σ tr T) sw i).2.2.1 → h1.2.2 (k + 1) = some (eI 10 Hf1) → (∀ r, r < nR N → Hf1 r = nI ((rf N σ kp (tf N σ tr T) sw i).2.2.2.1 r)) → h1.2.2 (k + 8) = some (eI (kp * 50) Lf1) → (∀ c, Lf1 c = nI ((rf N σ kp (tf N σ tr T) sw i).2.2.2.2 c) ∨ (Lf1 c = Lf c ∧ (rf N σ kp (tf N σ tr T) sw i).2.2.2.2 c = σ 8 c)) → (∀ r s, r < i → s < nS N → σ 0 0 < kp → Lf1 (50 * σ 0 0 + (5 * r + s)) = nI ((rf N σ kp (tf N σ tr T) sw i).2.2.2.2 (50 * σ 0 0 + (5 * r + s)))) → (∀ j, (j = k ∨ j = k + 3 ∨ j = k + 7) → h1.2.2 j = h.2.2 j) → (∃ f, h1.2.2 (k + 5) = some (eI 6 f) ∧ ∀ t, t < 6 → f t = nI ((tf N σ tr T).2.2.2.1 t) - nI 1) → isA h1 (k + 6) 6 6 (tf N σ tr T).2.2.2.2.1 →
      X G (d + 4) mX10_pass 122 [some (.ref 142), some (.ref k), some (.ref tk), some (.int (on sw)), some (.int (nI i))] [] h1 Q := by
    intro m
    induction m with
    | zero =>
      intro i h1 Hf1 Lf1 hi hb hS1 hW1 e142 a144 a143 a4 a2 ek1 hH1 ek8 hL8 hL9 hkk a5 a6
      obtain rfl : i = nR N := by omega
      have hL1 : Land h1 N := hL.kept (fun j z1 z2 => hb.2.2 j (by unfold paP; omega))
      obtain ⟨⟨co, hl, e89, -⟩, -⟩ := id hL1
      have ek := (hkk k (Or.inl rfl)).trans ek0
      refine ax_iload dX10_pass_122 rfl ?_
      refine ax_aload_n dX10_pass_124 rfl ?_
      refine ax_getf dX10_pass_125 flX10_18 e142 rfl ?_
      refine ax_getf dX10_pass_128 flX10_85 e89 rfl ?_
      refine ax_icmp_geT 166 dX10_pass_131 (by decide) (Int32.le_refl _) ?_
      refine ax_aload_n dX10_pass_166 rfl ?_
      refine ax_dup dX10_pass_167 rfl ?_
      refine ax_getf dX10_pass_168 flX10_98 ek rfl ?_
      refine ax_iconst dX10_pass_171 (v := nI 1) (by decide) ?_
      refine ax_iadd dX10_pass_172 ?_
      refine ax_putf dX10_pass_173 flX10_98 ek (Nat.le_of_ble_eq_true rfl) (fun _ => ⟨rfl, rfl⟩) ?_
      rw [nI_add]
      have kp5 : ∀ j, j ≠ k → (ax_wr h1 k (eSt k (nI (σ 0 0 + 1)) (nI kp))).2.2 j = h1.2.2 j := fun j z => ax_wr_ne z
      obtain ⟨g1, g2, g3, g4, g5, g6, g7⟩ := hS1.any
      have hScr : Scr (ax_wr h1 k (eSt k (nI (σ 0 0 + 1)) (nI kp))) := by
        obtain ⟨f3, q3, -⟩ := a143
        obtain ⟨f4, q4, -⟩ := a144
        exact ⟨(kp5 _ (by omega)).trans g1, g2.kept (kp5 _ (by omega)), g3.kept (kp5 _ (by omega)), g4.kept (kp5 _ (by omega)), g5.kept (kp5 _ (by omega)), g6.kept (kp5 _ (by omega)), g7.kept (kp5 _ (by omega)), hW1.kept (fun j z1 z2 => kp5 j (by omega)), ⟨_, (kp5 _ (by omega)).trans e142⟩, ⟨f3, (kp5 _ (by omega)).trans q3⟩, ⟨f4, (kp5 _ (by omega)).trans q4⟩⟩
      refine ax_return dX10_pass_176 rfl (hq _ (hb.wr (by unfold paP; omega)) hScr ⟨ax_wr_eq, ⟨Hf1, (kp5 _ (by omega)).trans ek1, hH1⟩, a2.kept (kp5 _ (by omega)), a3.kept ((kp5 _ (by omega)).trans (hkk _ (by omega))), a4.kept (kp5 _ (by omega)), ?_, a6.kept (kp5 _ (by omega)), a7.kept ((kp5 _ (by omega)).trans (hkk _ (by omega))), ⟨Lf1, (kp5 _ (by omega)).trans ek8, fun y r s hy1 hy2 hr hs => ?_⟩⟩ ((kp5 _ (by omega)).trans e142))
      · obtain ⟨f5, q5, hq5⟩ := a5
        exact ⟨f5, (kp5 _ (by omega)).trans q5, hq5⟩
      · have hy1' : y < σ 0 0 + 1 := hy1
        show Lf1 _ = nI ((rf N σ kp (tf N σ tr T) sw (nR N)).2.2.2.2 _)
        by_cases hyy : y = σ 0 0
        · rw [hyy] at hy2 ⊢
          exact hL9 r s hr hs hy2
        · rcases hL8 (50 * y + (5 * r + s)) with q | ⟨q1, q2⟩
          · exact q
          · rw [q1, q2]; exact hLf y r s (by omega) hy2 hr hs
    | succ m ih =>
      intro i h1 Hf1 Lf1 hi hb hS1 hW1 e142 a144 a143 a4 a2 ek1 hH1 ek8 hL8 hL9 hkk a5 a6
      have hL1 : Land h1 N := hL.kept (fun j z1 z2 => hb.2.2 j (by unfold paP; omega))
      obtain ⟨⟨co, hl, e89, -⟩, -⟩ := id hL1
      have ek := (hkk k (Or.inl rfl)).trans ek0
      have hstep : rf N σ kp (tf N σ tr T) sw (i + 1) = r1 N σ kp (tf N σ tr T).1 sw i (rf N σ kp (tf N σ tr T) sw i) := rfl
      have hrl := rf_lt (N := N) (kp := kp) (y := tf N σ tr T) (sw := sw) (σ := σ) hpu
      have hrh := rf_h (N := N) (σ := σ) (kp := kp) (y := tf N σ tr T) (sw := sw) i i (Nat.le_refl _)
      have hH1i := hH1 i (by omega)
      rw [hrh] at hH1i
      generalize hrf : rf N σ kp (tf N σ tr T) sw i = x at *
      have hxl : ∀ c, dpL x.1 (σ 3) i (nS N) c < 2 ^ 20 := fun c => by
        have q1 := hrl i c
        rw [hrf] at q1
        have q2 := (htl c).2
        have q3 := hpu c
        have q4 : 198 * i ≤ 198 * 10 := Nat.mul_le_mul_left _ (by omega)
        have q5 : 6993 * T ≤ 6993 * 6 := Nat.mul_le_mul_left _ hT6
        unfold dpL
        split <;> omega
      have hpsl : (tf N σ tr T).1 i < 2 ^ 20 := by
        have q2 := (htl i).1
        have q5 : 6993 * T ≤ 6993 * 6 := Nat.mul_le_mul_left _ hT6
        omega
      -- behind the sweeping
      have fin : ∀ (h2 : ax_H), But h1 h2 (fun j => j = 143 ∨ j = k + 4) → isA h2 143 50 50 (swp sw i (dpL x.1 (σ 3) i (nS N))) → isA h2 (k + 4) 5 5 (dpF x.2.1 (σ 3) i (nS N)) → X G (d + 4) mX10_pass 153 [some (.ref 142), some (.ref k), some (.ref tk), some (.int (on sw)), some (.int (nI i))] [] h2 Q := by
        intro h2 hb2 b143 b4
        have kp2 : ∀ j, j ≠ 143 → j ≠ k + 4 → h2.2.2 j = h1.2.2 j := fun j z1 z2 => hb2.2.2 j (by omega)
        have e142 := (kp2 142 (by omega) (by omega)).trans e142
        have ek := (kp2 k (by omega) (by omega)).trans ek
        have hS2 : Seen h2 N σ := hS1.kept (fun j z1 z2 => kp2 j (by omega) (by omega))
        have hL2 : Land h2 N := hL1.kept (fun j z1 z2 => kp2 j (by omega) (by omega))
        have hsl : ∀ c, swp sw i (dpL x.1 (σ 3) i (nS N)) c < 2 ^ 20 := fun c => by
          have := hxl c
          unfold swp swL
          split
          · dsimp only; split <;> omega
          · exact this
        refine ax_aload_n dX10_pass_153 rfl ?_
        refine ax_aload_n dX10_pass_154 rfl ?_
        refine ax_iload dX10_pass_155 rfl ?_
        refine ax_cV dX10_pass_157 mmX10_mendRoad lkX10_95 miX10_mendRoad msX10_mendRoad (ax_recv_of e142 rfl) rfl rfl (Nat.le_of_ble_eq_true rfl) (Nat.le_of_ble_eq_true rfl) rfl rfl (c_mendRoad (by omega) (by omega) (by omega) hkp (by omega) hN hL2 hS2 e142 b143 (a144.kept (kp2 144 (by omega) (by omega))) ek ((kp2 (k + 1) (by omega) (by omega)).trans ek1) hH1i (a2.kept (kp2 (k + 2) (by omega) (by omega))) ((kp2 (k + 8) (by omega) (by omega)).trans ek8) (hO.1 i (by omega)) hpsl hsl (fun h3 hb3 hS3 q1 q2 q8 => ⟨_, rfl, ?_⟩))
        refine ax_iinc dX10_pass_160 rfl (ax_inc 1) ?_
        refine ax_goto 122 dX10_pass_163 (by decide) ?_
        rw [nI_add]
        have kp3 : ∀ j, ¬ ((132 ≤ j ∧ j ≤ 133) ∨ j = k + 1 ∨ j = k + 2 ∨ j = k + 8) → h3.2.2 j = h2.2.2 j := fun j z => hb3.2.2 j z
        refine ih (i + 1) h3 _ _ (by omega) ((hb.tr (hb2.wide (fun j z => by unfold paP; omega))).tr (hb3.wide (fun j z => by unfold paP; omega))) hS3 ((hW1.kept (fun j z1 z2 => kp2 j (by omega) (by omega))).kept (fun j z1 z2 => kp3 j (by omega))) ((kp3 142 (by omega)).trans e142) ((a144.kept (kp2 144 (by omega) (by omega))).kept (kp3 144 (by omega))) ?_ ?_ ?_ q1 ?_ q8 ?_ ?_ (fun j z => (kp3 j (by omega)).trans ((kp2 j (by omega) (by omega)).trans (hkk j z))) ?_ ((a6.kept (kp2 _ (by omega) (by omega))).kept (kp3 _ (by omega)))
        · rw [hstep]; exact b143.kept (kp3 143 (by omega))
        · rw [hstep]; exact b4.kept (kp3 (k + 4) (by omega))
        · rw [hstep]; exact q2
        · rw [hstep]
          intro r hr
          show upd Hf1 i _ r = nI (upN x.2.2.2.1 i _ r)
          simp only [upd, upN]
          by_cases hri : r = i
          · rw [if_pos hri, if_pos hri]
          · rw [if_neg hri, if_neg hri]; exact hH1 r hr
        · rw [hstep]
          intro c
          show lyU Lf1 _ _ _ _ _ c = nI (lyN x.2.2.2.2 _ _ _ _ _ c) ∨ _
          unfold lyU
          show _ ∨ (_ ∧ lyN x.2.2.2.2 _ _ _ _ _ c = _)
          unfold lyN
          by_cases hc : σ 0 0 < kp ∧ 50 * σ 0 0 + 5 * i ≤ c ∧ c < 50 * σ 0 0 + 5 * i + nS N
          · rw [if_pos hc, if_pos hc]; exact Or.inl rfl
          · rw [if_neg hc, if_neg hc]; exact hL8 c
        · rw [hstep]
          intro r s hr hs hky
          show lyU Lf1 _ _ _ _ _ _ = nI (lyN x.2.2.2.2 _ _ _ _ _ _)
          unfold lyU lyN
          by_cases hri : r = i
          · rw [if_pos (by omega), if_pos (by omega)]
          · rw [if_neg (by omega), if_neg (by omega)]
            exact hL9 r s (by omega) hs hky
        · obtain ⟨f5, e5, q5⟩ := a5
          exact ⟨f5, (kp3 _ (by omega)).trans ((kp2 _ (by omega) (by omega)).trans e5), q5⟩
      refine ax_iload dX10_pass_122 rfl ?_
      refine ax_aload_n dX10_pass_124 rfl ?_
      refine ax_getf dX10_pass_125 flX10_18 e142 rfl ?_
      refine ax_getf dX10_pass_128 flX10_85 e89 rfl ?_
      refine ax_icmp_geF 166 dX10_pass_131 (by decide) (nI_ge (by omega) (by omega)) ?_
      refine ax_aload_n dX10_pass_134 rfl ?_
      refine ax_aload_n dX10_pass_135 rfl ?_
      refine ax_iload dX10_pass_136 rfl ?_
      refine ax_cV dX10_pass_138 mmX10_dropOnPurpose lkX10_88 miX10_dropOnPurpose msX10_dropOnPurpose (ax_recv_of e142 rfl) rfl rfl (Nat.le_of_ble_eq_true rfl) (Nat.le_of_ble_eq_true rfl) rfl rfl (c_drop (by omega) (by omega) (by omega) hN hL1 e142 ek (a3.kept (hkk (k + 3) (by omega))) a4 a143 (fun h2 hb2 b143 b4 => ⟨_, rfl, ?_⟩))
      refine ax_iload dX10_pass_141 rfl ?_
      refine ax_iload_n dX10_pass_143 rfl ?_
      by_cases hswi : sw = some i
      · have hx : swp sw i (dpL x.1 (σ 3) i (nS N)) = swL (dpL x.1 (σ 3) i (nS N)) i 5 := if_pos hswi
        rw [hx] at fin
        have e142 := (hb2.2.2 142 (by omega)).trans e142
        refine ax_icmp_neF 153 dX10_pass_144 (by decide) ((on_eq hsw (by omega)).mpr hswi) ?_
        refine ax_aload_n dX10_pass_147 rfl ?_
        refine ax_iload dX10_pass_148 rfl ?_
        refine ax_cV dX10_pass_150 mmX10_sweep lkX10_92 miX10_sweep msX10_sweep (ax_recv_of e142 rfl) rfl rfl (Nat.le_of_ble_eq_true rfl) (Nat.le_of_ble_eq_true rfl) rfl rfl (c_sweep (by omega) e142 b143 (fun h3 hb3 c143 => ⟨_, rfl, ?_⟩))
        exact fin h3 (hb2.tr (hb3.wide (fun j z => Or.inl z))) c143 (b4.kept (hb3.2.2 _ (by omega)))
      · have hx : swp sw i (dpL x.1 (σ 3) i (nS N)) = dpL x.1 (σ 3) i (nS N) := if_neg hswi
        rw [hx] at fin
        refine ax_icmp_neT 153 dX10_pass_144 (by decide) (fun q => hswi ((on_eq hsw (by omega)).mp q)) ?_
        exact fin h2 hb2 b143 b4
  refine ax_iconst dX10_pass_119 (v := nI 0) (by decide) ?_
  refine ax_istore dX10_pass_120 (Nat.le_of_ble_eq_true rfl) ?_
  refine loop (nR N) 0 h0 Hf Lf (by omega) hb0 hS0 hW0 e142 a144 a143 a4 (a2.kept (hst _ (by omega) (by omega) (by omega) (by omega) (by omega))) ((hst _ (by omega) (by omega) (by omega) (by omega) (by omega)).trans e1) hH ((hst _ (by omega) (by omega) (by omega) (by omega) (by omega)).trans e8) (fun c => Or.inr ⟨rfl, rfl⟩) (fun r s hr => by omega) (fun j z => hst j (by omega) (by omega) (by omega) (by omega) (by omega)) a5 a6
end PS2
