section PS
variable {G : ax_G} {d : Nat} {h : ax_H} {Q : ax_O → ax_H → Prop} {N : Nt} {σ : Sd}
/-- passed, lying, fell, came last (one more), came in all, came this year -/
abbrev YA : Type := (Nat → Nat) × (Nat → Nat) × (Nat → Nat) × (Nat → Nat) × (Nat → Nat) × Nat
def t1 (N : Nt) (σ : Sd) (tr : Nat → Nat → Nat) (t : Nat) (y : YA) : YA :=
  if (wy N (pv N σ (tr 3 t)) (tr 0 t) (tr 1 t)).2 = some (tr 1 t) then
    ((cr N σ (tr 2 t) (wy N (pv N σ (tr 3 t)) (tr 0 t) (tr 1 t)).1 (tr 3 t) y.1 y.2.1).2.1, (cr N σ (tr 2 t) (wy N (pv N σ (tr 3 t)) (tr 0 t) (tr 1 t)).1 (tr 3 t) y.1 y.2.1).2.2, adN y.2.2.1 (tr 2 t) (tr 3 t - (cr N σ (tr 2 t) (wy N (pv N σ (tr 3 t)) (tr 0 t) (tr 1 t)).1 (tr 3 t) y.1 y.2.1).1), upN y.2.2.2.1 t ((cr N σ (tr 2 t) (wy N (pv N σ (tr 3 t)) (tr 0 t) (tr 1 t)).1 (tr 3 t) y.1 y.2.1).1 + 1), adN y.2.2.2.2.1 t (cr N σ (tr 2 t) (wy N (pv N σ (tr 3 t)) (tr 0 t) (tr 1 t)).1 (tr 3 t) y.1 y.2.1).1, y.2.2.2.2.2 + (cr N σ (tr 2 t) (wy N (pv N σ (tr 3 t)) (tr 0 t) (tr 1 t)).1 (tr 3 t) y.1 y.2.1).1)
  else (y.1, y.2.1, y.2.2.1, upN y.2.2.2.1 t 0, y.2.2.2.2.1, y.2.2.2.2.2)
def tf (N : Nt) (σ : Sd) (tr : Nat → Nat → Nat) : Nat → YA
  | 0 => (fun _ => 0, fun _ => 0, σ 4, σ 5, σ 6, 0)
  | i + 1 => t1 N σ tr i (tf N σ tr i)
/-- lying, fell, surface, holes, layers: road by road -/
abbrev RA : Type := (Nat → Nat) × (Nat → Nat) × (Nat → Nat) × (Nat → Nat) × (Nat → Nat)
def swp (sw : Option Nat) (r : Nat) (ly : Nat → Nat) : Nat → Nat := if sw = some r then swL ly r 5 else ly
def lyN (la ly : Nat → Nat) (y r kp n : Nat) : Nat → Nat := fun c => if y < kp ∧ 50 * y + 5 * r ≤ c ∧ c < 50 * y + 5 * r + n then ly (c - 50 * y) else la c
def r1 (N : Nt) (σ : Sd) (kp : Nat) (ps : Nat → Nat) (sw : Option Nat) (r : Nat) (x : RA) : RA :=
  (swp sw r (dpL x.1 (σ 3) r (nS N)), dpF x.2.1 (σ 3) r (nS N), dpL x.2.2.1 (swp sw r (dpL x.1 (σ 3) r (nS N))) r (nS N), upN x.2.2.2.1 r (mh N σ (swp sw r (dpL x.1 (σ 3) r (nS N))) r (σ 1 r + ps r / 10) (nS N)), lyN x.2.2.2.2 (swp sw r (dpL x.1 (σ 3) r (nS N))) (σ 0 0) r kp (nS N))
def rf (N : Nt) (σ : Sd) (kp : Nat) (y : YA) (sw : Option Nat) : Nat → RA
  | 0 => (y.2.1, y.2.2.1, σ 2, σ 1, σ 8)
  | i + 1 => r1 N σ kp y.1 sw i (rf N σ kp y sw i)
/-- a year -/
def yS (N : Nt) (σ : Sd) (kp : Nat) (tr : Nat → Nat → Nat) (T : Nat) (sw : Option Nat) : Sd := fun i j =>
  if i = 0 then σ 0 0 + 1 else if i = 1 then (rf N σ kp (tf N σ tr T) sw (nR N)).2.2.2.1 j else if i = 2 then (rf N σ kp (tf N σ tr T) sw (nR N)).2.2.1 j else if i = 4 then (rf N σ kp (tf N σ tr T) sw (nR N)).2.1 j else if i = 5 then (tf N σ tr T).2.2.2.1 j else if i = 6 then (tf N σ tr T).2.2.2.2.1 j else if i = 8 then (rf N σ kp (tf N σ tr T) sw (nR N)).2.2.2.2 j else σ i j
def Scr (h : ax_H) : Prop := h.2.2 131 = some eSv ∧ anA h 132 8 ∧ anA h 133 32 ∧ anA h 134 10 ∧ anA h 135 10 ∧ anA h 136 10 ∧ anA h 137 50 ∧ WfIs h ∧ (∃ cm, h.2.2 142 = some (eYr cm)) ∧ anA h 143 50 ∧ anA h 144 10
theorem cr_ps {s : Nat} : ∀ (w : List Nat) (l : Nat) (ps ly : Nat → Nat) (j : Nat), (cr N σ s w l ps ly).2.1 j ≤ ps j + w.length * l ∧ (cr N σ s w l ps ly).2.2 j ≤ ly j + w.length * l
  | [], l, ps, ly, j => ⟨by simp [cr], by simp [cr]⟩
  | r :: w, l, ps, ly, j => by
    have hf := fall_le l N σ r s
    obtain ⟨h1, h2⟩ := cr_ps (s := s) w (l - l * shock N σ r s / 100) (adN ps r l) (adN ly (5 * r + s) (l * shock N σ r s / 100)) j
    have h3 : w.length * (l - l * shock N σ r s / 100) ≤ w.length * l := Nat.mul_le_mul_left _ (Nat.sub_le _ _)
    have h4 : adN ps r l j ≤ ps j + l := by unfold adN; split <;> simp_all
    have h5 : adN ly (5 * r + s) (l * shock N σ r s / 100) j ≤ ly j + l := by unfold adN; split <;> simp_all
    rw [List.length_cons, Nat.succ_mul]
    exact ⟨by show (cr N σ s w _ _ _).2.1 j ≤ _; omega, by show (cr N σ s w _ _ _).2.2 j ≤ _; omega⟩
theorem wk_mem {p B : Nat → Nat} {t : Nat} : ∀ (n : Nat) (a : Option Nat), (wkN N p B t n a).1.length ≤ n ∧ ∀ r ∈ (wkN N p B t n a).1, r < nR N
  | 0, a => ⟨Nat.le_refl _, fun r hr => by cases hr⟩
  | n + 1, none => ⟨Nat.zero_le _, fun r hr => by cases hr⟩
  | n + 1, some a => by
    unfold wkN
    split
    · exact ⟨Nat.zero_le _, fun r hr => by cases hr⟩
    · split
      · exact ⟨Nat.zero_le _, fun r hr => by cases hr⟩
      · rename_i r he
        obtain ⟨h1, h2⟩ := wk_mem (p := p) (B := B) (t := t) n (oth N r a)
        have h3 := fst_lt he
        exact ⟨by simp only [List.length_cons]; omega, fun q hq => by
          rcases List.mem_cons.mp hq with rfl | hq
          · omega
          · exact h2 q hq⟩
theorem tf_le {tr : Nat → Nat → Nat} : ∀ (i : Nat), (∀ t, t < i → tr 3 t ≤ 999) → ∀ j, (tf N σ tr i).1 j ≤ 6993 * i ∧ (tf N σ tr i).2.1 j ≤ 6993 * i
  | 0, _, j => ⟨Nat.le_refl _, Nat.le_refl _⟩
  | i + 1, ht, j => by
    obtain ⟨h1, h2⟩ := tf_le i (fun t q => ht t (by omega)) j
    have h9 := ht i (by omega)
    show (t1 N σ tr i (tf N σ tr i)).1 j ≤ _ ∧ (t1 N σ tr i (tf N σ tr i)).2.1 j ≤ _
    unfold t1
    split
    · obtain ⟨h3, h4⟩ := cr_ps (N := N) (σ := σ) (s := tr 2 i) (wy N (pv N σ (tr 3 i)) (tr 0 i) (tr 1 i)).1 (tr 3 i) (tf N σ tr i).1 (tf N σ tr i).2.1 j
      have h5 : (wy N (pv N σ (tr 3 i)) (tr 0 i) (tr 1 i)).1.length ≤ 7 := (wk_mem 7 _).1
      have h6 := Nat.mul_le_mul h5 h9
      exact ⟨by simp only; omega, by simp only; omega⟩
    · exact ⟨by simp only; omega, by simp only; omega⟩
theorem price_ld {r a b : Nat} (h4 : 4 ∉ N.2 0) : price N σ r a = price N σ r b := by
  unfold price
  refine congrArg _ (ev_congM fun c hc h8 => ?_)
  have h9 : c ≠ 4 := fun q => h4 (q ▸ hc)
  have h5 : c = 0 ∨ c = 1 ∨ c = 2 ∨ c = 3 ∨ c = 5 ∨ c = 6 ∨ c = 7 := by omega
  rcases h5 with rfl | rfl | rfl | rfl | rfl | rfl | rfl <;> rfl
theorem pv_ld {a b : Nat} (h4 : 4 ∉ N.2 0) : pv N σ a = pv N σ b := by
  funext r
  unfold pv
  rw [price_ld h4]
def paP (k : Nat) : Nat → Prop := fun j => (k ≤ j ∧ j ≤ k + 8) ∨ (132 ≤ j ∧ j ≤ 144)
theorem on_eq {sw : Option Nat} {i : Nat} (hs : ∀ r, sw = some r → r < 100) (hi : i < 100) : (nI i = on sw) ↔ sw = some i := by
  cases sw with
  | none => exact ⟨fun q => absurd (show nI i < 0 by rw [show nI i = -1 from q]; decide) (nI_pos (by omega)), fun q => by cases q⟩
  | some r =>
    have := hs r rfl
    exact ⟨fun q => by rw [(nI_eq (by omega) (by omega)).mp q], fun q => by cases q; rfl⟩
theorem Seen.kept {h' : ax_H} (hS : Seen h N σ) (hk : ∀ j, 131 ≤ j → j ≤ 137 → h'.2.2 j = h.2.2 j) : Seen h' N σ := by
  obtain ⟨s1, s2, s3, s4, s5, s6, g, s7, s8⟩ := hS
  exact ⟨(hk _ (by omega) (by omega)).trans s1, s2.kept (hk _ (by omega) (by omega)), s3.kept (hk _ (by omega) (by omega)), s4.kept (hk _ (by omega) (by omega)), s5.kept (hk _ (by omega) (by omega)), s6.kept (hk _ (by omega) (by omega)), g, (hk _ (by omega) (by omega)).trans s7, s8⟩
theorem Seen.any (hS : Seen h N σ) : h.2.2 131 = some eSv ∧ anA h 132 8 ∧ anA h 133 32 ∧ anA h 134 10 ∧ anA h 135 10 ∧ anA h 136 10 ∧ anA h 137 50 := by
  obtain ⟨s1, s2, s3, ⟨f4, s4, -⟩, ⟨f5, s5, -⟩, ⟨f6, s6, -⟩, g, s7, -⟩ := hS
  exact ⟨s1, s2, s3, ⟨f4, s4⟩, ⟨f5, s5⟩, ⟨f6, s6⟩, ⟨g, s7⟩⟩
theorem WfIs.kept {h' : ax_H} (hW : WfIs h) (hk : ∀ j, 138 ≤ j → j ≤ 141 → h'.2.2 j = h.2.2 j) : WfIs h' := by
  obtain ⟨⟨m, p, e⟩, a1, a2, a3⟩ := hW
  exact ⟨⟨m, p, (hk _ (by omega) (by omega)).trans e⟩, a1.kept (hk _ (by omega) (by omega)), a2.kept (hk _ (by omega) (by omega)), a3.kept (hk _ (by omega) (by omega))⟩
/-- the finder's prices are those of some load -/
def PrA (h : ax_H) (N : Nt) (σ : Sd) : Prop := ∃ ld, isA h 140 10 (nR N) (pv N σ ld)
/-- the trades of a year -/
theorem c_pass1 {k kp tk T : Nat} {tr : Nat → Nat → Nat} {sw : Option Nat} (hk : 106 ≤ k ∧ k ≤ 115) (hk2 : tk = 98 ∨ tk = 124) (htr : trOK N T tr) (hN : nOK N) (hO : sOK N σ) (hL : Land h N) (hT : TrIs h tk T tr) (hE : StIs h k kp N σ)
    (hq : ∀ h', But h h' (paP k) → Seen h' N σ → WfIs h' → h'.2.2 142 = some (eYr (nI (tf N σ tr T).2.2.2.2.2)) → isA h' 144 10 10 (tf N σ tr T).1 → isA h' 143 50 50 (tf N σ tr T).2.1 → isA h' (k + 4) 5 5 (tf N σ tr T).2.2.1 → (∃ f, h'.2.2 (k + 5) = some (eI 6 f) ∧ ∀ t, t < 6 → f t = nI ((tf N σ tr T).2.2.2.1 t) - nI 1) → isA h' (k + 6) 6 6 (tf N σ tr T).2.2.2.2.1 → (∀ j, k ≤ j → j ≤ k + 8 → j ≠ k + 4 → j ≠ k + 5 → j ≠ k + 6 → h'.2.2 j = h.2.2 j) → X G (d + 4) mX10_pass 119 [some (.ref 142), some (.ref k), some (.ref tk), some (.int (on sw)), some (.int (nI T))] [] h' Q)
    (hS : Scr h) : X G (d + 4) mX10_pass 0 (ax_in 5 [.ref 142, .ref k, .ref tk, .int (on sw)]) [] h Q := by
  obtain ⟨e131, a132, a133, a134, a135, a136, a137, hW, ⟨cm, e142⟩, a143, a144⟩ := hS
  obtain ⟨hT6, htt⟩ := htr
  have hP7 := hN.2.1
  have loop : ∀ (m i : Nat) (h1 : ax_H), i + m = T → But h h1 (paP k) → Seen h1 N σ → WfIs h1 → (0 < i → PrA h1 N σ) → h1.2.2 142 = some (eYr (nI (tf N σ tr i).2.2.2.2.2)) → isA h1 144 10 10 (tf N σ tr i).1 → isA h1 143 50 50 (tf N σ tr i).2.1 → isA h1 (k + 4) 5 5 (tf N σ tr i).2.2.1 → (∃ f, h1.2.2 (k + 5) = some (eI 6 f) ∧ ∀ t, t < 6 → f t = nI ((tf N σ tr i).2.2.2.1 t) - nI 1) → isA h1 (k + 6) 6 6 (tf N σ tr i).2.2.2.2.1 → (∀ j, k ≤ j → j ≤ k + 8 → j ≠ k + 4 → j ≠ k + 5 → j ≠ k + 6 → h1.2.2 j = h.2.2 j) → X G (d + 4) mX10_pass 32 [some (.ref 142), some (.ref k), some (.ref tk), some (.int (on sw)), some (.int (nI i))] [] h1 Q := by
    intro m
    induction m with
    | zero =>
      intro i h1 hi hb hS1 hW1 hpr e142 a144 a143 a4 a5 a6 hst
      obtain rfl : i = T := by omega
      have hT1 : TrIs h1 tk i tr := hT.kept (fun j z1 z2 => hb.2.2 j (by unfold paP; omega))
      obtain ⟨etk, -⟩ := id hT1
      refine ax_iload dX10_pass_32 rfl ?_
      refine ax_aload_n dX10_pass_34 rfl ?_
      refine ax_getf dX10_pass_35 flX10_46 etk rfl ?_
      refine ax_icmp_geT 119 dX10_pass_38 (by decide) (Int32.le_refl _) ?_
      exact hq h1 hb hS1 hW1 e142 a144 a143 a4 a5 a6 hst
    | succ m ih =>
      intro i h1 hi hb hS1 hW1 hpr e142 a144 a143 a4 a5 a6 hst
      have hT1 : TrIs h1 tk T tr := hT.kept (fun j z1 z2 => hb.2.2 j (by unfold paP; omega))
      have hL1 : Land h1 N := hL.kept (fun j z1 z2 => hb.2.2 j (by unfold paP; omega))
      obtain ⟨etk, ⟨g1, etk_1, hg1⟩, ⟨g2, etk_2, hg2⟩, ⟨g3, etk_3, hg3⟩, ⟨g4, etk_4, hg4⟩⟩ := id hT1
      obtain ⟨⟨co, hl, e89, hl01, hl0⟩, -⟩ := id hL1
      obtain ⟨t0, t1', t2, t3, t4, t5⟩ := htt i (by omega)
      -- behind the prices
      have next : ∀ (h2 : ax_H), But h1 h2 (fun j => 132 ≤ j ∧ j ≤ 140) → Seen h2 N σ → WfIs h2 → isA h2 140 10 (nR N) (pv N σ (tr 3 i)) → X G (d + 4) mX10_pass 70 [some (.ref 142), some (.ref k), some (.ref tk), some (.int (on sw)), some (.int (nI i))] [] h2 Q := by
        intro h2 hb2 hS2 hW2 hA2
        have kp2 : ∀ j, (j < 132 ∨ 140 < j) → h2.2.2 j = h1.2.2 j := fun j z => hb2.2.2 j (by omega)
        have hT2 : TrIs h2 tk T tr := hT1.kept (fun j z1 z2 => kp2 j (by omega))
        have hL2 : Land h2 N := hL1.kept (fun j z1 z2 => kp2 j (by omega))
        have etk := (kp2 tk (by omega)).trans etk
        have etk_1 := (kp2 (tk + 1) (by omega)).trans etk_1
        have etk_2 := (kp2 (tk + 2) (by omega)).trans etk_2
        have e142 := (kp2 142 (by omega)).trans e142
        have ek : ∃ yr kp', h2.2.2 k = some (eSt k yr kp') := by
          obtain ⟨e, -⟩ := hE
          exact ⟨_, _, (kp2 k (by omega)).trans ((hst k (by omega) (by omega) (by omega) (by omega) (by omega)).trans e)⟩
        obtain ⟨yr, kp', ek⟩ := ek
        obtain ⟨⟨mm, pp, e138⟩, -⟩ := id hW2
        refine ax_aload_n dX10_pass_70 rfl ?_
        refine ax_getf dX10_pass_71 flX10_26 e142 rfl ?_
        refine ax_aload_n dX10_pass_74 rfl ?_
        refine ax_getf dX10_pass_75 flX10_66 etk rfl ?_
        refine ax_iload dX10_pass_78 rfl ?_
        refine ax_iald dX10_pass_80 etk_1 (ax_ix_nI (by omega) (by decide)) ?_
        rw [hg1 i (by omega)]
        refine ax_aload_n dX10_pass_81 rfl ?_
        refine ax_getf dX10_pass_82 flX10_69 etk rfl ?_
        refine ax_iload dX10_pass_85 rfl ?_
        refine ax_iald dX10_pass_87 etk_2 (ax_ix_nI (by omega) (by decide)) ?_
        rw [hg2 i (by omega)]
        refine ax_cV dX10_pass_88 mmX9_find lkX10_72 miX9_find msX9_find (ax_recv_of e138 rfl) rfl rfl (Nat.le_of_ble_eq_true rfl) (Nat.le_of_ble_eq_true rfl) rfl rfl (c_find (by omega) (by omega) hN hL2 (fun r => (pv_le N σ (tr 3 i) r).2) hA2 hW2 (fun h3 hs3 h40 hW3 hway => ⟨_, rfl, ?_⟩))
        have kp3 : ∀ j, (j < 138 ∨ 141 < j) → h3.2.2 j = h2.2.2 j := fun j z => hs3.2.2 j z
        have hS3 : Seen h3 N σ := hS2.kept (fun j z1 z2 => kp3 j (by omega))
        have hL3 : Land h3 N := hL2.kept (fun j z1 z2 => kp3 j (by omega))
        have hT3 : TrIs h3 tk T tr := hT2.kept (fun j z1 z2 => kp3 j (by omega))
        have ek := (kp3 k (by omega)).trans ek
        have e142 := (kp3 142 (by omega)).trans e142
        have a144 := (a144.kept (kp2 144 (by omega))).kept (kp3 144 (by omega))
        have a143 := (a143.kept (kp2 143 (by omega))).kept (kp3 143 (by omega))
        have a4 := (a4.kept (kp2 (k + 4) (by omega))).kept (kp3 (k + 4) (by omega))
        have a6 := (a6.kept (kp2 (k + 6) (by omega))).kept (kp3 (k + 6) (by omega))
        obtain ⟨f5, ek_5, hf5⟩ := a5
        have ek_5 := (kp3 (k + 5) (by omega)).trans ((kp2 (k + 5) (by omega)).trans ek_5)
        have hb3 : But h h3 (paP k) := (hb.tr (hb2.wide (fun j z => by unfold paP; omega))).tr (hs3.but (fun j z1 z2 => by unfold paP; omega))
        have hst3 : ∀ j, k ≤ j → j ≤ k + 8 → j ≠ k + 4 → j ≠ k + 5 → j ≠ k + 6 → h3.2.2 j = h.2.2 j := fun j z1 z2 z3 z4 z5 => (kp3 j (by omega)).trans ((kp2 j (by omega)).trans (hst j z1 z2 z3 z4 z5))
        have hstep : tf N σ tr (i + 1) = t1 N σ tr i (tf N σ tr i) := rfl
        unfold t1 at hstep
        by_cases hgo : (wy N (pv N σ (tr 3 i)) (tr 0 i) (tr 1 i)).2 = some (tr 1 i)
        · rw [if_pos hgo] at hstep
          obtain ⟨w1, w2, w3⟩ := hway hgo
          rw [b1_t hgo]
          have hwm := (wk_mem (N := N) (p := pv N σ (tr 3 i)) (B := (bfN N (pv N σ (tr 3 i)) (tr 1 i) 7).1) (t := tr 1 i) 7 (if (bfN N (pv N σ (tr 3 i)) (tr 1 i) 7).1 (tr 0 i) < 536870912 then some (tr 0 i) else none)).2
          refine ax_if_eqF 105 dX10_pass_91 (by decide) (by decide) ?_
          refine ax_aload_n dX10_pass_94 rfl ?_
          refine ax_aload_n dX10_pass_95 rfl ?_
          refine ax_aload_n dX10_pass_96 rfl ?_
          refine ax_iload dX10_pass_97 rfl ?_
          refine ax_cV dX10_pass_99 mmX10_carry lkX10_76 miX10_carry msX10_carry (ax_recv_of e142 rfl) rfl rfl (Nat.le_of_ble_eq_true rfl) (Nat.le_of_ble_eq_true rfl) rfl rfl (c_carry (by omega) hk2 (by omega) (by omega) ⟨hT6, htt⟩ hN hL3 hS3 hT3 hwm w3 e142 a143 a144 ek a4 ek_5 a6 w1 w2 (fun h4 hb4 hS4 q142 q143 q144 q4 q5 q6 => ⟨_, rfl, ?_⟩))
          refine ax_goto 113 dX10_pass_102 (by decide) ?_
          refine ax_iinc dX10_pass_113 rfl (ax_inc 1) ?_
          refine ax_goto 32 dX10_pass_116 (by decide) ?_
          rw [nI_add]
          have hk4 : ∀ j, ¬ crP k j → h4.2.2 j = h3.2.2 j := hb4.2.2
          refine ih (i + 1) h4 (by omega) (hb3.tr (hb4.wide (fun j z => by unfold crP at z; unfold paP; omega))) hS4 (hW3.kept (fun j z1 z2 => hk4 j (by unfold crP; omega))) (fun _ => ⟨tr 3 i, (hA2.kept h40).kept (hk4 140 (by unfold crP; omega))⟩) ?_ ?_ ?_ ?_ ?_ ?_ (fun j z1 z2 z3 z4 z5 => (hk4 j (by unfold crP; omega)).trans (hst3 j z1 z2 z3 z4 z5))
          · rw [hstep]; exact q142
          · rw [hstep]; exact q144
          · rw [hstep]; exact q143
          · rw [hstep]; exact q4
          · rw [hstep]
            refine ⟨_, q5, fun t ht => ?_⟩
            simp only [upd, upN]
            by_cases hti : t = i
            · rw [if_pos hti, if_pos hti, pk_sub (by omega)]; rfl
            · rw [if_neg hti, if_neg hti]; exact hf5 t ht
          · rw [hstep]; exact q6
        · rw [if_neg hgo] at hstep
          rw [b1_f hgo]
          refine ax_if_eqT 105 dX10_pass_91 (by decide) rfl ?_
          refine ax_aload_n dX10_pass_105 rfl ?_
          refine ax_getf dX10_pass_106 flX10_80 ek rfl ?_
          refine ax_iload dX10_pass_109 rfl ?_
          refine ax_iconst dX10_pass_111 (v := -1) (by decide) ?_
          refine ax_iast dX10_pass_112 ek_5 (ax_ix_nI (by omega) (by decide)) ?_
          refine ax_iinc dX10_pass_113 rfl (ax_inc 1) ?_
          refine ax_goto 32 dX10_pass_116 (by decide) ?_
          rw [nI_add]
          refine ih (i + 1) _ (by omega) (hb3.wr (by unfold paP; omega)) (hS3.kept (fun j z1 z2 => ax_wr_ne (by omega))) (hW3.kept (fun j z1 z2 => ax_wr_ne (by omega))) (fun _ => ⟨tr 3 i, (hA2.kept h40).kept (ax_wr_ne (by omega))⟩) ?_ ?_ ?_ ?_ ?_ ?_ (fun j z1 z2 z3 z4 z5 => (ax_wr_ne (by omega)).trans (hst3 j z1 z2 z3 z4 z5))
          · rw [hstep]; exact (ax_wr_ne (by omega)).trans e142
          · rw [hstep]; exact a144.kept (ax_wr_ne (by omega))
          · rw [hstep]; exact a143.kept (ax_wr_ne (by omega))
          · rw [hstep]; exact a4.kept (ax_wr_ne (by omega))
          · rw [hstep]
            refine ⟨_, ax_wr_eq, fun t ht => ?_⟩
            simp only [upd, upN]
            by_cases hti : t = i
            · rw [if_pos hti, if_pos hti]; decide
            · rw [if_neg hti, if_neg hti]; exact hf5 t ht
          · rw [hstep]; exact a6.kept (ax_wr_ne (by omega))
      refine ax_iload dX10_pass_32 rfl ?_
      refine ax_aload_n dX10_pass_34 rfl ?_
      refine ax_getf dX10_pass_35 flX10_46 etk rfl ?_
      refine ax_icmp_geF 119 dX10_pass_38 (by decide) (nI_ge (by omega) (by omega)) ?_
      have setp : X G (d + 4) mX10_pass 56 [some (.ref 142), some (.ref k), some (.ref tk), some (.int (on sw)), some (.int (nI i))] [] h1 Q := by
        have e138 := hW1.1
        obtain ⟨mm, pp, e138⟩ := e138
        refine ax_aload_n dX10_pass_56 rfl ?_
        refine ax_getf dX10_pass_57 flX10_26 e142 rfl ?_
        refine ax_aload_n dX10_pass_60 rfl ?_
        refine ax_getf dX10_pass_61 flX10_57 etk rfl ?_
        refine ax_iload dX10_pass_64 rfl ?_
        refine ax_iald dX10_pass_66 etk_4 (ax_ix_nI (by omega) (by decide)) ?_
        rw [hg4 i (by omega)]
        refine ax_cV dX10_pass_67 mmX9_setPrices lkX10_60 miX9_setPrices msX9_setPrices (ax_recv_of e138 rfl) rfl rfl (Nat.le_of_ble_eq_true rfl) (Nat.le_of_ble_eq_true rfl) rfl rfl (c_setPrices hN hO hL1 hS1 hW1 (fun h2 hs2 hk3 hS2 hA2 => ⟨_, rfl, ?_⟩))
        exact next h2 (hs2.but (fun j z1 z2 => ⟨z1, z2⟩)) hS2 (by
          obtain ⟨⟨mm, pp, e138⟩, ⟨f9, e9⟩, -, a41⟩ := hW1
          obtain ⟨f0, e0, -⟩ := hA2
          exact ⟨⟨mm, pp, (hk3 138 (by omega) (by omega)).trans e138⟩, ⟨f9, (hk3 139 (by omega) (by omega)).trans e9⟩, ⟨f0, e0⟩, a41.kept (hs2.2.2 141 (by omega))⟩) hA2
      by_cases hi0 : i = 0
      · refine ax_iload dX10_pass_41 rfl ?_
        refine ax_if_eqT 56 dX10_pass_43 (by decide) (by rw [hi0]; rfl) ?_
        exact setp
      · refine ax_iload dX10_pass_41 rfl ?_
        refine ax_if_eqF 56 dX10_pass_43 (by decide) (nI_ne0 (by omega) (by omega)) ?_
        refine ax_aload_n dX10_pass_46 rfl ?_
        refine ax_getf dX10_pass_47 flX10_18 e142 rfl ?_
        refine ax_getf dX10_pass_50 flX10_51 e89 rfl ?_
        rcases hl01 with rfl | rfl
        · refine ax_if_eqT 70 dX10_pass_53 (by decide) rfl ?_
          obtain ⟨ld, hA⟩ := hpr (by omega)
          rw [pv_ld (b := tr 3 i) (hl0 rfl)] at hA
          exact next h1 But.rf hS1 hW1 hA
        · refine ax_if_eqF 70 dX10_pass_53 (by decide) (by decide) ?_
          exact setp
  obtain ⟨f143, e143⟩ := a143
  obtain ⟨f144, e144⟩ := a144
  refine ax_aload_n dX10_pass_0 rfl ?_
  refine ax_getf dX10_pass_1 flX10_22 e142 rfl ?_
  refine ax_aload_n dX10_pass_4 rfl ?_
  refine ax_cV dX10_pass_5 mmX4_look lkX10_30 miX4_look msX4_look (ax_recv_of e131 rfl) rfl rfl (Nat.le_of_ble_eq_true rfl) (Nat.le_of_ble_eq_true rfl) rfl rfl (c_look (by omega) (by omega) hN hL hE hO e131 a132 a133 a134 a135 a136 a137 (fun h1 hs1 hS1 => ⟨_, rfl, ?_⟩))
  have kp1 : ∀ j, (j < 134 ∨ 137 < j) → h1.2.2 j = h.2.2 j := fun j z => hs1.2.2 j z
  have e142 := (kp1 142 (by omega)).trans e142
  have e143 := (kp1 143 (by omega)).trans e143
  have e144 := (kp1 144 (by omega)).trans e144
  refine ax_aload_n dX10_pass_8 rfl ?_
  refine ax_getf dX10_pass_9 flX10_9 e142 rfl ?_
  refine ax_iconst dX10_pass_12 (v := nI 0) (by decide) ?_
  refine ax_cS dX10_pass_13 mmJ7_fill_53178 lkX10_36 mtJ7_fill_53178 rfl rfl (Nat.le_of_ble_eq_true rfl) (Nat.le_of_ble_eq_true rfl) rfl rfl (c_fill (by decide) e143 ⟨_, rfl, ?_⟩)
  refine ax_aload_n dX10_pass_16 rfl ?_
  refine ax_getf dX10_pass_17 flX10_15 ((ax_wr_ne (by decide)).trans (e142)) rfl ?_
  refine ax_iconst dX10_pass_20 (v := nI 0) (by decide) ?_
  refine ax_cS dX10_pass_21 mmJ7_fill_53178 lkX10_36 mtJ7_fill_53178 rfl rfl (Nat.le_of_ble_eq_true rfl) (Nat.le_of_ble_eq_true rfl) rfl rfl (c_fill (by decide) ((ax_wr_ne (by decide)).trans e144) ⟨_, rfl, ?_⟩)
  refine ax_aload_n dX10_pass_24 rfl ?_
  refine ax_iconst dX10_pass_25 (v := nI 0) (by decide) ?_
  refine ax_putf dX10_pass_26 flX10_42 ((ax_wr_ne (by decide)).trans ((ax_wr_ne (by decide)).trans (e142))) (Nat.le_of_ble_eq_true rfl) (fun _ => ⟨rfl, rfl⟩) ?_
  refine ax_iconst dX10_pass_29 (v := nI 0) (by decide) ?_
  refine ax_istore dX10_pass_30 (Nat.le_of_ble_eq_true rfl) ?_
  have kp4 : ∀ j, j ≠ 143 → j ≠ 144 → j ≠ 142 → (ax_wr (ax_wr (ax_wr h1 143 (eI 50 (fl 50 (fun _ => nI 0) f143))) 144 (eI 10 (fl 10 (fun _ => nI 0) f144))) 142 (eYr (nI 0))).2.2 j = h1.2.2 j := fun j z1 z2 z3 => (ax_wr_ne z3).trans ((ax_wr_ne z2).trans (ax_wr_ne z1))
  obtain ⟨-, -, -, -, b4, ⟨f5, e5, hf5⟩, b6, -⟩ := hE
  refine loop T 0 _ (by omega) ((((hs1.but (fun j z1 z2 => by unfold paP; omega)).wr (by unfold paP; omega)).wr (by unfold paP; omega)).wr (by unfold paP; omega)) (hS1.kept (fun j z1 z2 => kp4 j (by omega) (by omega) (by omega))) ((hW.kept (fun j z1 z2 => kp1 j (by omega))).kept (fun j z1 z2 => kp4 j (by omega) (by omega) (by omega))) (fun q => absurd q (by omega)) ax_wr_eq ⟨_, (ax_wr_ne (by omega)).trans ax_wr_eq, fun j hj => fl_in hj⟩ ⟨_, (ax_wr_ne (by omega)).trans ((ax_wr_ne (by omega)).trans ax_wr_eq), fun j hj => fl_in hj⟩ ((b4.kept (kp1 _ (by omega))).kept (kp4 _ (by omega) (by omega) (by omega))) ⟨f5, (kp4 _ (by omega) (by omega) (by omega)).trans ((kp1 _ (by omega)).trans e5), hf5⟩ ((b6.kept (kp1 _ (by omega))).kept (kp4 _ (by omega) (by omega) (by omega))) (fun j z1 z2 z3 z4 z5 => (kp4 j (by omega) (by omega) (by omega)).trans (kp1 j (by omega)))
end PS
