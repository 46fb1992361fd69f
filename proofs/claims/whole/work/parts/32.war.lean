section WR
variable {G : ax_G} {d : Nat} {h : ax_H} {Q : ax_O → ax_H → Prop} {N : Nt} {σ : Sd}
def warS (τ : Sd) (r v : Nat) : Sd := fun i j => if i = 1 then (if j = r then τ 1 j + v else τ 1 j) else τ i j
/-- a year of war: the draw, the trial, what came -/
def w1 (N : Nt) (tr : Nat → Nat → Nat) (T : Nat) (a : Nat × Sd × Nat) : Nat × Sd × Nat :=
  (dw (dw a.1), yS N (warS a.2.1 (dw a.1 / 65536 % nR N) (dw (dw a.1) / 65536 % 500)) 0 tr T none, a.2.2 + (tf N (warS a.2.1 (dw a.1 / 65536 % nR N) (dw (dw a.1) / 65536 % 500)) tr T).2.2.2.2.2)
def wN (N : Nt) (tr : Nat → Nat → Nat) (T : Nat) (a : Nat × Sd × Nat) : Nat → Nat × Sd × Nat
  | 0 => a
  | n + 1 => w1 N tr T (wN N tr T a n)
theorem Bd.war {τ : Sd} {b y r v : Nat} (hv : v ≤ 499) (a : Bd N τ b y) : Bd N (warS τ r v) (b + 499) y := by
  obtain ⟨a1, a2, a3, a4, a5⟩ := a
  refine ⟨fun q hq => ?_, a2, a3, a4, a5⟩
  have := a1 q hq
  show (if q = r then τ 1 q + v else τ 1 q) ≤ _
  split <;> omega
theorem Bd.wars {τ : Sd} {b y x c T : Nat} {tr : Nat → Nat → Nat} (hN : nOK N) (htr : trOK N T tr) (hb : 5300 ≤ b) (a : Bd N τ b y) : ∀ n, Bd N (wN N tr T (x, τ, c) n).2.1 (b + 499 * n) (y + n)
  | 0 => a
  | n + 1 => by
    have h1 := (Bd.wars (x := x) (c := c) hN htr hb a n).war (r := dw (wN N tr T (x, τ, c) n).1 / 65536 % nR N) (v := dw (dw (wN N tr T (x, τ, c) n).1) / 65536 % 500) (by omega)
    have h2 := h1.year (kp := 0) (sw := none) hN htr (by omega)
    have e : b + 499 * (n + 1) = b + 499 * n + 499 := by omega
    rw [e]
    exact h2
theorem Cs.dr {dr : Int64} (a : Cs h N σ) : Cs (ax_wr h 64 (eX dr)) N σ := by
  obtain ⟨-, hL, hS, h1, h2, h3⟩ := a
  exact ⟨⟨dr, ax_wr_eq⟩, hL.kept (fun j z1 z2 => ax_wr_ne (by omega)), hS.kept (fun j z1 z2 => ax_wr_ne (by omega)), h1.kept (fun j z1 z2 => ax_wr_ne (by omega)), h2.kept (fun j z1 z2 => ax_wr_ne (by omega)), h3.kept (fun j z1 z2 => ax_wr_ne (by omega))⟩
theorem StIs.war {k kp r v : Nat} {τ : Sd} {Hf : Nat → Int32} (hE : StIs h k kp N τ) (hr : r < 10) (e1 : h.2.2 (k + 1) = some (eI 10 Hf)) (hH : ∀ j, j < nR N → Hf j = nI (τ 1 j)) : StIs (ax_wr h (k + 1) (eI 10 (upd Hf r (nI (τ 1 r + v))))) k kp N (warS τ r v) := by
  obtain ⟨e, -, a2, a3, a4, ⟨f, e5, q5⟩, a6, a7, ⟨g, e8, q8⟩⟩ := hE
  have kp' : ∀ j, j ≠ k + 1 → (ax_wr h (k + 1) (eI 10 (upd Hf r (nI (τ 1 r + v))))).2.2 j = h.2.2 j := fun j z => ax_wr_ne z
  refine ⟨(kp' _ (by omega)).trans e, ⟨_, ax_wr_eq, fun j hj => ?_⟩, a2.kept (kp' _ (by omega)), a3.kept (kp' _ (by omega)), a4.kept (kp' _ (by omega)), ⟨f, (kp' _ (by omega)).trans e5, q5⟩, a6.kept (kp' _ (by omega)), a7.kept (kp' _ (by omega)), ⟨g, (kp' _ (by omega)).trans e8, q8⟩⟩
  show upd Hf r _ j = nI (if j = r then τ 1 j + v else τ 1 j)
  unfold upd
  by_cases hc : j = r
  · subst hc
    rw [if_pos rfl, if_pos rfl]
  · rw [if_neg hc, if_neg hc]; exact hH j hj
theorem ax_recv_wr {k c : Nat} {fs : List Value} {Cn : String} (hc : (vwCl[c]?).map (fun q => q.1) = some Cn) : ax_recv ax_old G (ax_wr h k (.inr (c, fs))) k Cn := by
  obtain ⟨q, h1, h2⟩ := Option.map_eq_some_iff.mp hc
  rw [← h2]
  exact ax_recv_of (h := ax_wr h k (.inr (c, fs))) ax_wr_eq h1
def waP : Nat → Prop := fun j => j = 64 ∨ trP j
theorem c_cameInWar {b y n x T : Nat} {tr : Nat → Nat → Nat} {τ : Sd} (hx : x < 2147483648) (hR0 : 0 < nR N) (htr : trOK N T tr) (hN : nOK N) (hB : Bd N τ b y) (hb0 : 5300 ≤ b) (hb1 : b + 499 * n < 99000) (hy : y + n ≤ 28000) (e64 : h.2.2 64 = some (eX (lN x))) (hC : Cs h N σ) (hT : TrIs h 124 T tr) (hE : StIs h 115 0 N τ)
    (hq : ∀ h', But h h' waP → Cs h' N σ → h'.2.2 64 = some (eX (lN (wN N tr T (x, τ, 0) n).1)) → StIs h' 115 0 N (wN N tr T (x, τ, 0) n).2.1 → Q (.inl (some (.int (nI (wN N tr T (x, τ, 0) n).2.2)))) h') : X G (d + 5) mX11_cameInWar 0 (ax_in 5 [.ref 64, .int (nI n)]) [] h Q := by
  have hR := hN.2.2.1
  have loop : ∀ (m i : Nat) (h1 : ax_H) (o4 : Option Value), i + m = n → (wN N tr T (x, τ, 0) i).1 < 2147483648 → But h h1 waP → Cs h1 N σ → TrIs h1 124 T tr → h1.2.2 64 = some (eX (lN (wN N tr T (x, τ, 0) i).1)) → StIs h1 115 0 N (wN N tr T (x, τ, 0) i).2.1 → X G (d + 5) mX11_cameInWar 4 [some (.ref 64), some (.int (nI n)), some (.int (nI (wN N tr T (x, τ, 0) i).2.2)), some (.int (nI i)), o4] [] h1 Q := by
    intro m
    induction m with
    | zero =>
      intro i h1 o4 hi hxi hb hC1 hT1 e64 hE1
      obtain rfl : i = n := by omega
      refine ax_iload_n dX11_cameInWar_4 rfl ?_
      refine ax_iload_n dX11_cameInWar_5 rfl ?_
      refine ax_icmp_geT 74 dX11_cameInWar_6 (by decide) (Int32.le_refl _) ?_
      refine ax_iload_n dX11_cameInWar_74 rfl ?_
      exact ax_ireturn dX11_cameInWar_75 rfl (hq _ hb hC1 e64 hE1)
    | succ m ih =>
      intro i h1 o4 hi hxi hb hC1 hT1 e64 hE1
      have hBi := hB.wars (x := x) (c := 0) hN htr hb0 i
      have hstep : wN N tr T (x, τ, 0) (i + 1) = w1 N tr T (wN N tr T (x, τ, 0) i) := rfl
      generalize hw : wN N tr T (x, τ, 0) i = a at *
      obtain ⟨⟨co, hl, e89, -⟩, -⟩ := id hC1.2.1
      have hbd := dw_lt a.1
      have hrr : dw a.1 / 65536 % nR N < nR N := Nat.mod_lt _ hR0
      refine ax_iload_n dX11_cameInWar_4 rfl ?_
      refine ax_iload_n dX11_cameInWar_5 rfl ?_
      refine ax_icmp_geF 74 dX11_cameInWar_6 (by decide) (nI_ge (by omega) (by omega)) ?_
      refine ax_aload_n dX11_cameInWar_9 rfl ?_
      refine ax_aload_n dX11_cameInWar_10 rfl ?_
      refine ax_getf dX11_cameInWar_11 flX11_39 e64 rfl ?_
      refine ax_getf dX11_cameInWar_14 flX11_279 e89 rfl ?_
      refine ax_cV dX11_cameInWar_17 mmX11_drawBelow lkX11_318 miX11_drawBelow msX11_drawBelow (ax_recv_of e64 rfl) rfl rfl (Nat.le_of_ble_eq_true rfl) (Nat.le_of_ble_eq_true rfl) rfl rfl (c_drawBelow hxi hR0 (by omega) e64 ⟨_, rfl, ?_⟩)
      obtain ⟨e115, ⟨Hf, e116, hH⟩, -⟩ := id hE1
      refine ax_istore dX11_cameInWar_20 (Nat.le_of_ble_eq_true rfl) ?_
      refine ax_aload_n dX11_cameInWar_22 rfl ?_
      refine ax_getf dX11_cameInWar_23 flX11_51 ax_wr_eq rfl ?_
      refine ax_getf dX11_cameInWar_26 flX11_144 ((ax_wr_ne (by decide)).trans (e115)) rfl ?_
      refine ax_iload dX11_cameInWar_29 rfl ?_
      refine ax_dup2 dX11_cameInWar_31 rfl rfl ?_
      refine ax_iald dX11_cameInWar_32 ((ax_wr_ne (by decide)).trans (e116)) (ax_ix_nI (by omega) (by decide)) ?_
      rw [hH _ hrr]
      refine ax_aload_n dX11_cameInWar_33 rfl ?_
      refine ax_sipush dX11_cameInWar_34 (v := nI 500) (by decide) ?_
      refine ax_cV dX11_cameInWar_37 mmX11_drawBelow lkX11_318 miX11_drawBelow msX11_drawBelow (ax_recv_wr rfl) rfl rfl (Nat.le_of_ble_eq_true rfl) (Nat.le_of_ble_eq_true rfl) rfl rfl (c_drawBelow hbd (by omega) (by omega) ax_wr_eq ⟨_, rfl, ?_⟩)
      rw [ax_wr_wr]
      refine ax_iadd dX11_cameInWar_40 ?_
      rw [nI_add]
      refine ax_iast dX11_cameInWar_41 ((ax_wr_ne (by decide)).trans (e116)) (ax_ix_nI (by omega) (by decide)) ?_
      have hE2 : StIs (ax_wr (ax_wr h1 64 (eX (lN (dw (dw a.1))))) 116 (eI 10 (upd Hf (dw a.1 / 65536 % nR N) (nI (a.2.1 1 (dw a.1 / 65536 % nR N) + dw (dw a.1) / 65536 % 500))))) 115 0 N (warS a.2.1 (dw a.1 / 65536 % nR N) (dw (dw a.1) / 65536 % 500)) := StIs.war (hE1.kept (fun j z1 z2 => ax_wr_ne (by omega))) (by omega) ((ax_wr_ne (by decide)).trans e116) hH
      have hC2 : Cs (ax_wr (ax_wr h1 64 (eX (lN (dw (dw a.1))))) 116 (eI 10 (upd Hf (dw a.1 / 65536 % nR N) (nI (a.2.1 1 (dw a.1 / 65536 % nR N) + dw (dw a.1) / 65536 % 500))))) N σ := hC1.dr.after (But.rf.wr (by unfold trP; omega)) hE2.any ((hC1.dr.2.2.2.2.1).kept (fun j z1 z2 => ax_wr_ne (by omega))) ((hC1.dr.2.2.2.2.2).kept (fun j z1 z2 => ax_wr_ne (by omega)))
      have hT2 : TrIs (ax_wr (ax_wr h1 64 (eX (lN (dw (dw a.1))))) 116 (eI 10 (upd Hf (dw a.1 / 65536 % nR N) (nI (a.2.1 1 (dw a.1 / 65536 % nR N) + dw (dw a.1) / 65536 % 500))))) 124 T tr := hT1.kept (fun j z1 z2 => (ax_wr_ne (by omega)).trans (ax_wr_ne (by omega)))
      have f64 : (ax_wr (ax_wr h1 64 (eX (lN (dw (dw a.1))))) 116 (eI 10 (upd Hf (dw a.1 / 65536 % nR N) (nI (a.2.1 1 (dw a.1 / 65536 % nR N) + dw (dw a.1) / 65536 % 500))))).2.2 64 = some (eX (lN (dw (dw a.1)))) := (ax_wr_ne (by decide)).trans ax_wr_eq
      have hb2 : But h (ax_wr (ax_wr h1 64 (eX (lN (dw (dw a.1))))) 116 (eI 10 (upd Hf (dw a.1 / 65536 % nR N) (nI (a.2.1 1 (dw a.1 / 65536 % nR N) + dw (dw a.1) / 65536 % 500))))) waP := (hb.wr (Or.inl rfl)).wr (by unfold waP trP; omega)
      generalize hh2 : ax_wr (ax_wr h1 64 (eX (lN (dw (dw a.1))))) 116 (eI 10 (upd Hf (dw a.1 / 65536 % nR N) (nI (a.2.1 1 (dw a.1 / 65536 % nR N) + dw (dw a.1) / 65536 % 500)))) = h2 at *
      have e64 := f64
      obtain ⟨cm, e142⟩ := hC2.2.2.2.2.2.2.2.2.2.2.2.2.2.1
      have hB2 := hBi.war (r := dw a.1 / 65536 % nR N) (v := dw (dw a.1) / 65536 % 500) (by omega)
      refine ax_aload_n dX11_cameInWar_42 rfl ?_
      refine ax_getf dX11_cameInWar_43 flX11_92 e64 rfl ?_
      refine ax_aload_n dX11_cameInWar_46 rfl ?_
      refine ax_getf dX11_cameInWar_47 flX11_51 e64 rfl ?_
      refine ax_aload_n dX11_cameInWar_50 rfl ?_
      refine ax_getf dX11_cameInWar_51 flX11_57 e64 rfl ?_
      refine ax_iconst dX11_cameInWar_54 (v := -1) (by decide) ?_
      refine ax_cV dX11_cameInWar_55 mmX10_pass lkX11_216 miX10_pass msX10_pass (ax_recv_of e142 rfl) rfl rfl (Nat.le_of_ble_eq_true rfl) (Nat.le_of_ble_eq_true rfl) rfl rfl (c_passT (d := d) (sw := none) (fun r hr => by cases hr) htr hN hB2 (by omega) (by omega) hC2 hT2 hE2 (fun h3 hb3 hC3 hT3 hE3 e142 => ⟨_, rfl, ?_⟩))
      have e64 := (hb3.2.2 64 (by unfold trP; omega)).trans e64
      refine ax_iload_n dX11_cameInWar_58 rfl ?_
      refine ax_aload_n dX11_cameInWar_59 rfl ?_
      refine ax_getf dX11_cameInWar_60 flX11_92 e64 rfl ?_
      refine ax_getf dX11_cameInWar_63 flX11_321 e142 rfl ?_
      refine ax_iadd dX11_cameInWar_66 ?_
      refine ax_istore_n dX11_cameInWar_67 (Nat.le_of_ble_eq_true rfl) ?_
      refine ax_iinc dX11_cameInWar_68 rfl (ax_inc 1) ?_
      refine ax_goto 4 dX11_cameInWar_71 (by decide) ?_
      rw [nI_add, nI_add]
      have key := ih (i + 1) h3 (some (.int (nI (dw a.1 / 65536 % nR N)))) (by omega) (by rw [hstep]; exact dw_lt _) (hb2.tr (hb3.wide (fun j z => Or.inr z))) hC3 hT3 (by rw [hstep]; exact e64) (by rw [hstep]; exact hE3)
      rw [hstep] at key
      exact key
  refine ax_iconst dX11_cameInWar_0 (v := nI 0) (by decide) ?_
  refine ax_istore_n dX11_cameInWar_1 (Nat.le_of_ble_eq_true rfl) ?_
  refine ax_iconst dX11_cameInWar_2 (v := nI 0) (by decide) ?_
  refine ax_istore_n dX11_cameInWar_3 (Nat.le_of_ble_eq_true rfl) ?_
  exact loop n 0 h none (by omega) hx But.rf hC hT e64 hE
theorem bit_at {m t : Nat} (hm : m < 2 ^ 31) (ht : t < 6) : (nI m >>> (nI t &&& 31)) &&& nI 1 = nI (m / 2 ^ t % 2) := by
  have hs : ((nI t &&& 31).toBitVec.smod 32).toNat = t := by
    have : t = 0 ∨ t = 1 ∨ t = 2 ∨ t = 3 ∨ t = 4 ∨ t = 5 := by omega
    rcases this with rfl | rfl | rfl | rfl | rfl | rfl <;> decide
  rw [pk_shrN hm _ t hs, pk_andN (Nat.lt_of_le_of_lt (Nat.div_le_self _ _) (by omega)) 1 (by decide)]
def fln (N : Nt) (σ : Sd) (r m s t : Nat) : Nat := if m / 2 ^ t % 2 = 1 ∧ N.1 8 t = s then N.1 9 t * shock N σ r s / 100 else 0
abbrev lvP (N : Nt) (σ : Sd) (r m : Nat) : Prop := ∀ s, s < nS N → sm (fln N σ r m s) (nT N) = σ 7 s
theorem fln_le {r m s t : Nat} (hN : nOK N) (ht : t < nT N) : fln N σ r m s t ≤ 999 := by
  have h1 := (hN.2.2.2.2.2.2.1 t ht).2.2.2.2.2
  have h2 := fall_le (N.1 9 t) N σ r s
  unfold fln
  split <;> omega
theorem c_leaves {dr : Int64} {r m : Nat} (hr : r < nR N) (hm : m < 2 ^ 31) (hN : nOK N) (e64 : h.2.2 64 = some (eX dr)) (hL : Land h N) (hE : StIs h 106 40 N σ) (hS : Seen h N σ) (hto : ∀ s, s < 5 → σ 7 s ≤ 9999)
    (hq : ∀ h', Same h h' 132 137 → Seen h' N σ → Q (.inl (some (.int (b1 (lvP N σ r m))))) h') : X G (d + 3) mX11_leavesToldLayer 0 (ax_in 6 [.ref 64, .int (nI r), .int (nI m)]) [] h Q := by
  have hS5 := hN.1
  have hT6 := hN.2.2.2.1
  have loop : ∀ (k s : Nat) (h1 : ax_H) (o4 o5 : Option Value), s + k = nS N → (∀ z, z < s → sm (fln N σ r m z) (nT N) = σ 7 z) → Same h h1 132 137 → Seen h1 N σ → X G (d + 3) mX11_leavesToldLayer 2 [some (.ref 64), some (.int (nI r)), some (.int (nI m)), some (.int (nI s)), o4, o5] [] h1 Q := by
    intro k
    induction k with
    | zero =>
      intro s h1 o4 o5 hs hz hm1 hS1
      obtain rfl : s = nS N := by omega
      have e64 := (hm1.2.2 64 (by omega)).trans e64
      obtain ⟨⟨co, hl, e89, -⟩, -⟩ := hL.kept (h' := h1) (fun j z1 z2 => hm1.2.2 j (by omega))
      refine ax_iload_n dX11_leavesToldLayer_2 rfl ?_
      refine ax_aload_n dX11_leavesToldLayer_3 rfl ?_
      refine ax_getf dX11_leavesToldLayer_4 flX11_39 e64 rfl ?_
      refine ax_getf dX11_leavesToldLayer_7 flX11_242 e89 rfl ?_
      refine ax_icmp_geT 120 dX11_leavesToldLayer_10 (by decide) (Int32.le_refl _) ?_
      refine ax_iconst dX11_leavesToldLayer_120 (v := nI 1) (by decide) ?_
      refine ax_zreturn dX11_leavesToldLayer_121 rfl (Or.inr rfl) ?_
      have := hq _ hm1 hS1
      rw [b1_t (show lvP N σ r m from hz)] at this
      exact this
    | succ k ih =>
      intro s h1 o4 o5 hs hz hm1 hS1
      have inner : ∀ (q t : Nat) (h2 : ax_H), t + q = nT N → Same h h2 132 137 → Seen h2 N σ → X G (d + 3) mX11_leavesToldLayer 19 [some (.ref 64), some (.int (nI r)), some (.int (nI m)), some (.int (nI s)), some (.int (nI (sm (fln N σ r m s) t))), some (.int (nI t))] [] h2 Q := by
        intro q
        induction q with
        | zero =>
          intro t h2 ht hm2 hS2
          obtain rfl : t = nT N := by omega
          have e64 := (hm2.2.2 64 (by omega)).trans e64
          obtain ⟨⟨co, hl, e89, -⟩, -, -, -, -, -, e98, -⟩ := hL.kept (h' := h2) (fun j z1 z2 => hm2.2.2 j (by omega))
          obtain ⟨e106, -, -, -, -, -, -, ⟨f7, e113, q7⟩, -⟩ := hE.kept (h' := h2) (fun j z1 z2 => hm2.2.2 j (by omega))
          have hb1 : sm (fln N σ r m s) (nT N) ≤ nT N * 999 := sm_le (fun t ht => fln_le hN ht)
          have hb2 := hto s (by omega)
          have hb3 : nT N * 999 ≤ 6 * 999 := Nat.mul_le_mul_right _ hT6
          refine ax_iload dX11_leavesToldLayer_19 rfl ?_
          refine ax_aload_n dX11_leavesToldLayer_21 rfl ?_
          refine ax_getf dX11_leavesToldLayer_22 flX11_39 e64 rfl ?_
          refine ax_getf dX11_leavesToldLayer_25 flX11_164 e89 rfl ?_
          refine ax_getf dX11_leavesToldLayer_28 flX11_251 e98 rfl ?_
          refine ax_icmp_geT 98 dX11_leavesToldLayer_31 (by decide) (Int32.le_refl _) ?_
          refine ax_iload dX11_leavesToldLayer_98 rfl ?_
          refine ax_aload_n dX11_leavesToldLayer_100 rfl ?_
          refine ax_getf dX11_leavesToldLayer_101 flX11_47 e64 rfl ?_
          refine ax_getf dX11_leavesToldLayer_104 flX11_272 e106 rfl ?_
          refine ax_iload_n dX11_leavesToldLayer_107 rfl ?_
          refine ax_iald dX11_leavesToldLayer_108 e113 (ax_ix_nI (by omega) (by decide)) ?_
          rw [q7 s (by omega)]
          by_cases hc : sm (fln N σ r m s) (nT N) = σ 7 s
          · refine ax_icmp_eqT 114 dX11_leavesToldLayer_109 (by decide) (by rw [hc]) ?_
            refine ax_iinc dX11_leavesToldLayer_114 rfl (ax_inc 1) ?_
            refine ax_goto 2 dX11_leavesToldLayer_117 (by decide) ?_
            rw [nI_add]
            exact ih (s + 1) h2 _ _ (by omega) (fun z hz' => by
              rcases Nat.lt_or_ge z s with q | q
              · exact hz z q
              · obtain rfl : z = s := by omega
                exact hc) hm2 hS2
          · refine ax_icmp_eqF 114 dX11_leavesToldLayer_109 (by decide) (fun q => hc ((nI_eq (by omega) (by omega)).mp q)) ?_
            refine ax_iconst dX11_leavesToldLayer_112 (v := nI 0) (by decide) ?_
            refine ax_zreturn dX11_leavesToldLayer_113 rfl (Or.inl rfl) ?_
            have := hq _ hm2 hS2
            rw [b1_f (fun q : lvP N σ r m => hc (q s (by omega)))] at this
            exact this
        | succ q ihq =>
          intro t h2 ht hm2 hS2
          have e64 := (hm2.2.2 64 (by omega)).trans e64
          have hL2 : Land h2 N := hL.kept (fun j z1 z2 => hm2.2.2 j (by omega))
          obtain ⟨⟨co, hl, e89, -⟩, -, -, -, -, -, e98, -, -, ⟨f8, e101, q8⟩, ⟨f9, e102, q9⟩, -⟩ := id hL2
          obtain ⟨-, -, -, c4, -, c6⟩ := hN.2.2.2.2.2.2.1 t (by omega)
          have e131 := hS2.1
          have e : sm (fln N σ r m s) (t + 1) = sm (fln N σ r m s) t + fln N σ r m s t := rfl
          refine ax_iload dX11_leavesToldLayer_19 rfl ?_
          refine ax_aload_n dX11_leavesToldLayer_21 rfl ?_
          refine ax_getf dX11_leavesToldLayer_22 flX11_39 e64 rfl ?_
          refine ax_getf dX11_leavesToldLayer_25 flX11_164 e89 rfl ?_
          refine ax_getf dX11_leavesToldLayer_28 flX11_251 e98 rfl ?_
          refine ax_icmp_geF 98 dX11_leavesToldLayer_31 (by decide) (nI_ge (by omega) (by omega)) ?_
          refine ax_iload_n dX11_leavesToldLayer_34 rfl ?_
          refine ax_iload dX11_leavesToldLayer_35 rfl ?_
          refine ax_ishr dX11_leavesToldLayer_37 ?_
          refine ax_iconst dX11_leavesToldLayer_38 (v := nI 1) (by decide) ?_
          refine ax_iand dX11_leavesToldLayer_39 ?_
          refine ax_iconst dX11_leavesToldLayer_40 (v := nI 1) (by decide) ?_
          rw [bit_at hm (by omega)]
          by_cases hc : m / 2 ^ t % 2 = 1
          · refine ax_icmp_neF 92 dX11_leavesToldLayer_41 (by decide) (by rw [hc]) ?_
            refine ax_aload_n dX11_leavesToldLayer_44 rfl ?_
            refine ax_getf dX11_leavesToldLayer_45 flX11_39 e64 rfl ?_
            refine ax_getf dX11_leavesToldLayer_48 flX11_164 e89 rfl ?_
            refine ax_getf dX11_leavesToldLayer_51 flX11_173 e98 rfl ?_
            refine ax_iload dX11_leavesToldLayer_54 rfl ?_
            refine ax_iald dX11_leavesToldLayer_56 e101 (ax_ix_nI (by omega) (by decide)) ?_
            rw [q8 t (by omega)]
            by_cases hd : N.1 8 t = s
            · refine ax_iload_n dX11_leavesToldLayer_57 rfl ?_
              refine ax_icmp_neF 92 dX11_leavesToldLayer_58 (by decide) (by rw [hd]) ?_
              refine ax_iload dX11_leavesToldLayer_61 rfl ?_
              refine ax_aload_n dX11_leavesToldLayer_63 rfl ?_
              refine ax_getf dX11_leavesToldLayer_64 flX11_39 e64 rfl ?_
              refine ax_getf dX11_leavesToldLayer_67 flX11_164 e89 rfl ?_
              refine ax_getf dX11_leavesToldLayer_70 flX11_176 e98 rfl ?_
              refine ax_iload dX11_leavesToldLayer_73 rfl ?_
              refine ax_iald dX11_leavesToldLayer_75 e102 (ax_ix_nI (by omega) (by decide)) ?_
              rw [q9 t (by omega)]
              refine ax_aload_n dX11_leavesToldLayer_76 rfl ?_
              refine ax_getf dX11_leavesToldLayer_77 flX11_74 e64 rfl ?_
              refine ax_iload_n dX11_leavesToldLayer_80 rfl ?_
              refine ax_iload_n dX11_leavesToldLayer_81 rfl ?_
              refine ax_cV dX11_leavesToldLayer_82 mmX4_shockOf lkX11_210 miX4_shockOf msX4_shockOf (ax_recv_of e131 rfl) rfl rfl (Nat.le_of_ble_eq_true rfl) (Nat.le_of_ble_eq_true rfl) rfl rfl (c_shockOf (d := d) hr (by omega) hN hL2 hS2 (fun h3 hm3 hS3 => ⟨_, rfl, ?_⟩))
              refine ax_imul dX11_leavesToldLayer_85 ?_
              refine ax_bipush dX11_leavesToldLayer_86 (v := nI 100) (by decide) ?_
              have hsl := shock_le N σ r s
              have hml : N.1 9 t * shock N σ r s ≤ 999 * 100 := Nat.mul_le_mul c6 hsl
              rw [pk_mul]
              refine ax_idiv dX11_leavesToldLayer_88 (by decide) ?_
              refine ax_topi (pk_div (by omega) (by omega) (by omega)) ?_
              refine ax_iadd dX11_leavesToldLayer_89 ?_
              refine ax_istore dX11_leavesToldLayer_90 (Nat.le_of_ble_eq_true rfl) ?_
              refine ax_iinc dX11_leavesToldLayer_92 rfl (ax_inc 1) ?_
              refine ax_goto 19 dX11_leavesToldLayer_95 (by decide) ?_
              rw [nI_add, nI_add, show N.1 9 t * shock N σ r s / 100 = fln N σ r m s t from (if_pos ⟨hc, hd⟩).symm, ← e]
              exact ihq (t + 1) h3 (by omega) (hm2.tr hm3) hS3
            · refine ax_iload_n dX11_leavesToldLayer_57 rfl ?_
              refine ax_icmp_neT 92 dX11_leavesToldLayer_58 (by decide) (fun q => hd ((nI_eq (by omega) (by omega)).mp q)) ?_
              refine ax_iinc dX11_leavesToldLayer_92 rfl (ax_inc 1) ?_
              refine ax_goto 19 dX11_leavesToldLayer_95 (by decide) ?_
              have e' : sm (fln N σ r m s) (t + 1) = sm (fln N σ r m s) t := by rw [e, show fln N σ r m s t = 0 from if_neg (fun q => hd q.2), Nat.add_zero]
              rw [nI_add, ← e']
              exact ihq (t + 1) h2 (by omega) hm2 hS2
          · refine ax_icmp_neT 92 dX11_leavesToldLayer_41 (by decide) (fun q => hc ((nI_eq (by omega) (by omega)).mp q)) ?_
            refine ax_iinc dX11_leavesToldLayer_92 rfl (ax_inc 1) ?_
            refine ax_goto 19 dX11_leavesToldLayer_95 (by decide) ?_
            have e' : sm (fln N σ r m s) (t + 1) = sm (fln N σ r m s) t := by rw [e, show fln N σ r m s t = 0 from if_neg (fun q => hc q.1), Nat.add_zero]
            rw [nI_add, ← e']
            exact ihq (t + 1) h2 (by omega) hm2 hS2
      have e64 := (hm1.2.2 64 (by omega)).trans e64
      obtain ⟨⟨co, hl, e89, -⟩, -⟩ := hL.kept (h' := h1) (fun j z1 z2 => hm1.2.2 j (by omega))
      refine ax_iload_n dX11_leavesToldLayer_2 rfl ?_
      refine ax_aload_n dX11_leavesToldLayer_3 rfl ?_
      refine ax_getf dX11_leavesToldLayer_4 flX11_39 e64 rfl ?_
      refine ax_getf dX11_leavesToldLayer_7 flX11_242 e89 rfl ?_
      refine ax_icmp_geF 120 dX11_leavesToldLayer_10 (by decide) (nI_ge (by omega) (by omega)) ?_
      refine ax_iconst dX11_leavesToldLayer_13 (v := nI 0) (by decide) ?_
      refine ax_istore dX11_leavesToldLayer_14 (Nat.le_of_ble_eq_true rfl) ?_
      refine ax_iconst dX11_leavesToldLayer_16 (v := nI 0) (by decide) ?_
      refine ax_istore dX11_leavesToldLayer_17 (Nat.le_of_ble_eq_true rfl) ?_
      exact inner (nT N) 0 h1 (by omega) hm1 hS1
  refine ax_iconst dX11_leavesToldLayer_0 (v := nI 0) (by decide) ?_
  refine ax_istore_n dX11_leavesToldLayer_1 (Nat.le_of_ble_eq_true rfl) ?_
  exact loop (nS N) 0 h none none (by omega) (fun z hz => by omega) Same.rfl' hS
end WR
