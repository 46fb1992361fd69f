/-! ===== Year ===== -/
section YR
variable {G : ax_G} {d : Nat} {h : ax_H} {Q : ax_O → ax_H → Prop} {N : Nt} {σ : Sd}
def adN (f : Nat → Nat) (k v : Nat) : Nat → Nat := fun j => if j = k then f k + v else f j
/-- what a load of stuff s leaves along a row of roads: what is left, what passed, what lies, what fell -/
def cr (N : Nt) (σ : Sd) (s : Nat) : List Nat → Nat → (Nat → Nat) → (Nat → Nat) → Nat × (Nat → Nat) × (Nat → Nat)
  | [], l, ps, ly => (l, ps, ly)
  | r :: rs, l, ps, ly => cr N σ s rs (l - l * shock N σ r s / 100) (adN ps r l) (adN ly (5 * r + s) (l * shock N σ r s / 100))
theorem shock_le (N : Nt) (σ : Sd) (r s : Nat) : shock N σ r s ≤ 100 := (cl_eq (a := 0) (by decide) (by decide) _).2.2
theorem fall_le (l : Nat) (N : Nt) (σ : Sd) (r s : Nat) : l * shock N σ r s / 100 ≤ l := by
  have := Nat.mul_le_mul_left l (shock_le N σ r s)
  omega
theorem cr_le {s : Nat} : ∀ (w : List Nat) (l : Nat) (ps ly : Nat → Nat), (cr N σ s w l ps ly).1 ≤ l
  | [], l, _, _ => Nat.le_refl _
  | r :: w, l, ps, ly => Nat.le_trans (cr_le w _ _ _) (Nat.sub_le _ _)
/-- what fell in all: the load less what is left -/
theorem isA_ad {n : Nat} {g : Nat → Nat} {f : Nat → Int32} {i v : Nat} (hf : ∀ j, j < n → f j = nI (g j)) (hi : i < n) : ∀ j, j < n → upd f i (f i + nI v) j = nI (adN g i v j) := by
  intro j hj
  simp only [upd, adN]
  by_cases h1 : j = i
  · subst h1
    rw [if_pos rfl, if_pos rfl, hf j hj, nI_add]
  · rw [if_neg h1, if_neg h1]; exact hf j hj
/-- trades at tk hold tr up to T -/
def TrIs (h : ax_H) (tk T : Nat) (tr : Nat → Nat → Nat) : Prop := h.2.2 tk = some (eTr tk (nI T)) ∧ isA h (tk + 1) 6 T (tr 0) ∧ isA h (tk + 2) 6 T (tr 1) ∧ isA h (tk + 3) 6 T (tr 2) ∧ isA h (tk + 4) 6 T (tr 3)
theorem TrIs.kept {h' : ax_H} {tk T : Nat} {tr : Nat → Nat → Nat} (hk : ∀ j, tk ≤ j → j ≤ tk + 4 → h'.2.2 j = h.2.2 j) (a : TrIs h tk T tr) : TrIs h' tk T tr := by
  obtain ⟨e, a1, a2, a3, a4⟩ := a
  exact ⟨(hk _ (by omega) (by omega)).trans e, a1.kept (hk _ (by omega) (by omega)), a2.kept (hk _ (by omega) (by omega)), a3.kept (hk _ (by omega) (by omega)), a4.kept (hk _ (by omega) (by omega))⟩
def trOK (N : Nt) (T : Nat) (tr : Nat → Nat → Nat) : Prop := T ≤ 6 ∧ ∀ t, t < T → tr 0 t < nP N ∧ tr 1 t < nP N ∧ tr 2 t < nS N ∧ tr 3 t ≤ 999 ∧ 1 ≤ tr 3 t ∧ tr 0 t ≠ tr 1 t
/-- nothing but these has changed -/
def But (h h' : ax_H) (P : Nat → Prop) : Prop := h'.1 = h.1 ∧ h'.2.1 = h.2.1 ∧ ∀ k, ¬ P k → h'.2.2 k = h.2.2 k
theorem But.rf {P : Nat → Prop} : But h h P := ⟨rfl, rfl, fun _ _ => rfl⟩
theorem But.wr {h' : ax_H} {P : Nat → Prop} {k : Nat} {e : ax_E} (a : But h h' P) (hk : P k) : But h (ax_wr h' k e) P := ⟨a.1, a.2.1, fun j hj => (ax_wr_ne (fun q => hj (by rw [q]; exact hk))).trans (a.2.2 j hj)⟩
theorem But.tr {h' h'' : ax_H} {P : Nat → Prop} (a : But h h' P) (b : But h' h'' P) : But h h'' P := ⟨b.1.trans a.1, b.2.1.trans a.2.1, fun j hj => (b.2.2 j hj).trans (a.2.2 j hj)⟩
theorem But.wide {h' : ax_H} {P P' : Nat → Prop} (a : But h h' P) (hp : ∀ k, P k → P' k) : But h h' P' := ⟨a.1, a.2.1, fun j hj => a.2.2 j (fun q => hj (hp j q))⟩
theorem Same.but {h' : ax_H} {lo hi : Nat} {P : Nat → Prop} (a : Same h h' lo hi) (hp : ∀ k, lo ≤ k → k ≤ hi → P k) : But h h' P := ⟨a.1, a.2.1, fun j hj => a.2.2 j (by
  rcases Nat.lt_or_ge j lo with q | q
  · exact Or.inl q
  · rcases Nat.lt_or_ge hi j with z | z
    · exact Or.inr z
    · exact absurd (hp j q z) hj)⟩
def crP (k : Nat) : Nat → Prop := fun j => (132 ≤ j ∧ j ≤ 137) ∨ (142 ≤ j ∧ j ≤ 144) ∨ (k + 4 ≤ j ∧ j ≤ k + 6)
theorem c_carry {k tk T t : Nat} {tr : Nat → Nat → Nat} {w : List Nat} {fe ca ps ly : Nat → Nat} {f5 : Nat → Int32} {cm : Nat} {pr : Int32} {yr kp : Int32} (hk : (106 ≤ k ∧ k ≤ 122) ) (hk2 : tk = 98 ∨ tk = 124) (hkt : k + 8 < 124) (ht : t < T) (htr : trOK N T tr) (hN : nOK N) (hL : Land h N) (hS : Seen h N σ) (hT : TrIs h tk T tr) (hw : ∀ r ∈ w, r < nR N) (hw7 : w.length ≤ 7)
    (e142 : h.2.2 142 = some (eYr (nI cm))) (a143 : isA h 143 50 50 ly) (a144 : isA h 144 10 10 ps) (ek : h.2.2 k = some (eSt k yr kp)) (a4 : isA h (k + 4) 5 5 fe) (ek_5 : h.2.2 (k + 5) = some (eI 6 f5)) (a6 : isA h (k + 6) 6 6 ca) (e138 : h.2.2 138 = some (eWf (nI w.length) pr)) (a139 : isA h 139 7 w.length (fun j => w.getD j 0))
    (hq : ∀ h', But h h' (crP k) → Seen h' N σ → h'.2.2 142 = some (eYr (nI (cm + (cr N σ (tr 2 t) w (tr 3 t) ps ly).1))) → isA h' 143 50 50 (cr N σ (tr 2 t) w (tr 3 t) ps ly).2.2 → isA h' 144 10 10 (cr N σ (tr 2 t) w (tr 3 t) ps ly).2.1 → isA h' (k + 4) 5 5 (adN fe (tr 2 t) (tr 3 t - (cr N σ (tr 2 t) w (tr 3 t) ps ly).1)) → h'.2.2 (k + 5) = some (eI 6 (upd f5 t (nI (cr N σ (tr 2 t) w (tr 3 t) ps ly).1))) → isA h' (k + 6) 6 6 (adN ca t (cr N σ (tr 2 t) w (tr 3 t) ps ly).1) → Q (.inl none) h') : X G (d + 3) mX10_carry 0 (ax_in 9 [.ref 142, .ref k, .ref tk, .int (nI t)]) [] h Q := by
  obtain ⟨etk, -, -, ⟨g3, etk_3, hg3⟩, ⟨g4, etk_4, hg4⟩⟩ := hT
  obtain ⟨hT6, htt⟩ := htr
  obtain ⟨-, -, hs5, hl9, hl1, -⟩ := htt t ht
  have hR := hN.2.2.1
  have hS5 := hN.1
  obtain ⟨f139, e139, hf139⟩ := a139
  have loop : ∀ (w2 : List Nat) (i : Nat) (l : Nat) (ps2 ly2 fe2 : Nat → Nat) (h1 : ax_H) (o7 o8 : Option Value), w.drop i = w2 → i ≤ w.length → l ≤ tr 3 t → But h h1 (crP k) → Seen h1 N σ → h1.2.2 142 = some (eYr (nI cm)) → isA h1 143 50 50 ly2 → isA h1 144 10 10 ps2 → isA h1 (k + 4) 5 5 fe2 → h1.2.2 (k + 5) = some (eI 6 f5) → isA h1 (k + 6) 6 6 ca → fe2 = adN fe (tr 2 t) (tr 3 t - l) → cr N σ (tr 2 t) w2 l ps2 ly2 = cr N σ (tr 2 t) w (tr 3 t) ps ly →
      X G (d + 3) mX10_carry 19 [some (.ref 142), some (.ref k), some (.ref tk), some (.int (nI t)), some (.int (nI (tr 2 t))), some (.int (nI l)), some (.int (nI i)), o7, o8] [] h1 Q := by
    intro w2
    induction w2 with
    | nil =>
      intro i l ps2 ly2 fe2 h1 o7 o8 hd hil hll hb hS1 e142 a143 a144 a4 e5 a6 hfe hcr
      have hi : w.length ≤ i := List.drop_eq_nil_iff.mp hd
      obtain ⟨f6, ek_6, hf6⟩ := a6
      have ek_5 := e5
      have ek : h1.2.2 k = some (eSt k yr kp) := (hb.2.2 k (by unfold crP; omega)).trans ek
      have e138 : h1.2.2 138 = some (eWf (nI w.length) pr) := (hb.2.2 138 (by unfold crP; omega)).trans e138
      simp only [cr] at hcr
      rw [← hcr] at hq
      simp only at hq
      refine ax_iload dX10_carry_19 rfl ?_
      refine ax_aload_n dX10_carry_21 rfl ?_
      refine ax_getf dX10_carry_22 flX10_26 e142 rfl ?_
      refine ax_getf dX10_carry_25 flX10_104 e138 rfl ?_
      refine ax_icmp_geT 116 dX10_carry_28 (by decide) (nI_le (by omega) (by omega)) ?_
      refine ax_aload_n dX10_carry_116 rfl ?_
      refine ax_getf dX10_carry_117 flX10_80 ek rfl ?_
      refine ax_iload_n dX10_carry_120 rfl ?_
      refine ax_iload dX10_carry_121 rfl ?_
      refine ax_iast dX10_carry_123 ek_5 (ax_ix_nI (by omega) (by decide)) ?_
      refine ax_aload_n dX10_carry_124 rfl ?_
      refine ax_getf dX10_carry_125 flX10_118 ((ax_wr_ne (by omega)).trans (ek)) rfl ?_
      refine ax_iload_n dX10_carry_128 rfl ?_
      refine ax_dup2 dX10_carry_129 rfl rfl ?_
      refine ax_iald dX10_carry_130 ((ax_wr_ne (by omega)).trans (ek_6)) (ax_ix_nI (by omega) (by decide)) ?_
      refine ax_iload dX10_carry_131 rfl ?_
      refine ax_iadd dX10_carry_133 ?_
      refine ax_iast dX10_carry_134 ((ax_wr_ne (by omega)).trans (ek_6)) (ax_ix_nI (by omega) (by decide)) ?_
      refine ax_aload_n dX10_carry_135 rfl ?_
      refine ax_dup dX10_carry_136 rfl ?_
      refine ax_getf dX10_carry_137 flX10_42 ((ax_wr_ne (by omega)).trans ((ax_wr_ne (by omega)).trans (e142))) rfl ?_
      refine ax_iload dX10_carry_140 rfl ?_
      refine ax_iadd dX10_carry_142 ?_
      rw [nI_add]
      have hb2 : But h (ax_wr (ax_wr (ax_wr h1 (k + 5) (eI 6 (upd f5 t (nI l)))) (k + 6) (eI 6 (upd f6 t (f6 t + nI l)))) 142 (eYr (nI (cm + l)))) (crP k) := ((hb.wr (by unfold crP; omega)).wr (by unfold crP; omega)).wr (by unfold crP; omega)
      obtain ⟨s1, s2, s3, s4, s5, s6, g, s7, s8⟩ := hS1
      have kp1 : ∀ j, j ≠ 142 → j ≠ k + 5 → j ≠ k + 6 → (ax_wr (ax_wr (ax_wr h1 (k + 5) (eI 6 (upd f5 t (nI l)))) (k + 6) (eI 6 (upd f6 t (f6 t + nI l)))) 142 (eYr (nI (cm + l)))).2.2 j = h1.2.2 j := fun j z1 z2 z3 => (ax_wr_ne z1).trans ((ax_wr_ne z3).trans (ax_wr_ne z2))
      refine ax_putf dX10_carry_143 flX10_42 ((ax_wr_ne (by omega)).trans ((ax_wr_ne (by omega)).trans (e142))) (Nat.le_of_ble_eq_true rfl) (fun _ => ⟨rfl, rfl⟩) ?_
      exact ax_return dX10_carry_146 rfl (hq _ hb2 ⟨(kp1 131 (by omega) (by omega) (by omega)).trans s1, s2.kept (kp1 _ (by omega) (by omega) (by omega)), s3.kept (kp1 _ (by omega) (by omega) (by omega)), s4.kept (kp1 _ (by omega) (by omega) (by omega)), s5.kept (kp1 _ (by omega) (by omega) (by omega)), s6.kept (kp1 _ (by omega) (by omega) (by omega)), g, (kp1 _ (by omega) (by omega) (by omega)).trans s7, s8⟩ ax_wr_eq (a143.kept (kp1 _ (by omega) (by omega) (by omega))) (a144.kept (kp1 _ (by omega) (by omega) (by omega))) (hfe ▸ a4.kept (kp1 _ (by omega) (by omega) (by omega))) ((ax_wr_ne (by omega)).trans ((ax_wr_ne (by omega)).trans ax_wr_eq)) ⟨_, (ax_wr_ne (by omega)).trans ax_wr_eq, isA_ad hf6 (by omega)⟩)
    | cons r w2 ih =>
      intro i l ps2 ly2 fe2 h1 o7 o8 hd hil hll hb hS1 e142 a143 a144 a4 e5 a6 hfe hcr
      obtain ⟨hi, hg, hd1⟩ := dropC hd
      have hr : r < nR N := by rw [← hg]; rw [List.getD_eq_getElem?_getD, List.getElem?_eq_getElem hi]; exact hw _ (List.getElem_mem hi)
      have ek : h1.2.2 k = some (eSt k yr kp) := (hb.2.2 k (by unfold crP; omega)).trans ek
      have e138 : h1.2.2 138 = some (eWf (nI w.length) pr) := (hb.2.2 138 (by unfold crP; omega)).trans e138
      have e139 : h1.2.2 139 = some (eI 7 f139) := (hb.2.2 139 (by unfold crP; omega)).trans e139
      have hL1 : Land h1 N := hL.kept (fun j z1 z2 => hb.2.2 j (by unfold crP; omega))
      have e131 := hS1.1
      have hsh := shock_le N σ r (tr 2 t)
      have hfa := fall_le l N σ r (tr 2 t)
      have hmul := Nat.mul_le_mul_left l hsh
      simp only [cr] at hcr
      refine ax_iload dX10_carry_19 rfl ?_
      refine ax_aload_n dX10_carry_21 rfl ?_
      refine ax_getf dX10_carry_22 flX10_26 e142 rfl ?_
      refine ax_getf dX10_carry_25 flX10_104 e138 rfl ?_
      refine ax_icmp_geF 116 dX10_carry_28 (by decide) (nI_ge (by omega) (by omega)) ?_
      refine ax_aload_n dX10_carry_31 rfl ?_
      refine ax_getf dX10_carry_32 flX10_26 e142 rfl ?_
      refine ax_getf dX10_carry_35 flX10_105 e138 rfl ?_
      refine ax_iload dX10_carry_38 rfl ?_
      refine ax_iald dX10_carry_40 e139 (ax_ix_nI (by omega) (by decide)) ?_
      rw [hf139 i hi]
      simp only [hg]
      refine ax_istore dX10_carry_41 (Nat.le_of_ble_eq_true rfl) ?_
      refine ax_iload dX10_carry_43 rfl ?_
      refine ax_aload_n dX10_carry_45 rfl ?_
      refine ax_getf dX10_carry_46 flX10_22 e142 rfl ?_
      refine ax_iload dX10_carry_49 rfl ?_
      refine ax_iload dX10_carry_51 rfl ?_
      refine ax_cV dX10_carry_53 mmX4_shockOf lkX10_108 miX4_shockOf msX4_shockOf (ax_recv_of e131 rfl) rfl rfl (Nat.le_of_ble_eq_true rfl) (Nat.le_of_ble_eq_true rfl) rfl rfl (c_shockOf hr hs5 hN hL1 hS1 (fun h2 hs2 hS2 => ⟨_, rfl, ?_⟩))
      have kp2 : ∀ j, (j < 132 ∨ 137 < j) → h2.2.2 j = h1.2.2 j := fun j z => hs2.2.2 j z
      have e142 : h2.2.2 142 = some (eYr (nI cm)) := (kp2 _ (by omega)).trans e142
      obtain ⟨f144, e144, hf144⟩ := a144.kept (kp2 144 (by omega))
      obtain ⟨f143, e143, hf143⟩ := a143.kept (kp2 143 (by omega))
      obtain ⟨f4, ek_4, hf4⟩ := a4.kept (kp2 (k + 4) (by omega))
      have ek : h2.2.2 k = some (eSt k yr kp) := (kp2 _ (by omega)).trans ek
      refine ax_imul dX10_carry_56 ?_
      rw [pk_mul]
      refine ax_bipush dX10_carry_57 (v := nI 100) (by decide) ?_
      refine ax_idiv dX10_carry_59 (by decide) ?_
      rw [pk_div (by omega) (by decide) (by decide)]
      refine ax_istore dX10_carry_60 (Nat.le_of_ble_eq_true rfl) ?_
      refine ax_aload_n dX10_carry_62 rfl ?_
      refine ax_getf dX10_carry_63 flX10_15 e142 rfl ?_
      refine ax_iload dX10_carry_66 rfl ?_
      refine ax_dup2 dX10_carry_68 rfl rfl ?_
      refine ax_iald dX10_carry_69 e144 (ax_ix_nI (by omega) (by decide)) ?_
      refine ax_iload dX10_carry_70 rfl ?_
      refine ax_iadd dX10_carry_72 ?_
      refine ax_iast dX10_carry_73 e144 (ax_ix_nI (by omega) (by decide)) ?_
      refine ax_aload_n dX10_carry_74 rfl ?_
      refine ax_getf dX10_carry_75 flX10_9 ((ax_wr_ne (by decide)).trans (e142)) rfl ?_
      refine ax_iload dX10_carry_78 rfl ?_
      refine ax_iload dX10_carry_80 rfl ?_
      refine ax_cSN dX10_carry_82 mmX11_cell lnX10_112 mtX11_cell rfl rfl (Nat.le_of_ble_eq_true rfl) (Nat.le_of_ble_eq_true rfl) rfl rfl (c_cellN ⟨_, rfl, ?_⟩)
      refine ax_dup2 dX10_carry_85 rfl rfl ?_
      refine ax_iald dX10_carry_86 ((ax_wr_ne (by decide)).trans (e143)) (ax_ix_nI (by omega) (by decide)) ?_
      refine ax_iload dX10_carry_87 rfl ?_
      refine ax_iadd dX10_carry_89 ?_
      refine ax_iast dX10_carry_90 ((ax_wr_ne (by decide)).trans (e143)) (ax_ix_nI (by omega) (by decide)) ?_
      refine ax_aload_n dX10_carry_91 rfl ?_
      refine ax_getf dX10_carry_92 flX10_115 ((ax_wr_ne (by omega)).trans ((ax_wr_ne (by omega)).trans (ek))) rfl ?_
      refine ax_iload dX10_carry_95 rfl ?_
      refine ax_dup2 dX10_carry_97 rfl rfl ?_
      refine ax_iald dX10_carry_98 ((ax_wr_ne (by omega)).trans ((ax_wr_ne (by omega)).trans (ek_4))) (ax_ix_nI (by omega) (by decide)) ?_
      refine ax_iload dX10_carry_99 rfl ?_
      refine ax_iadd dX10_carry_101 ?_
      refine ax_iast dX10_carry_102 ((ax_wr_ne (by omega)).trans ((ax_wr_ne (by omega)).trans (ek_4))) (ax_ix_nI (by omega) (by decide)) ?_
      refine ax_iload dX10_carry_103 rfl ?_
      refine ax_iload dX10_carry_105 rfl ?_
      refine ax_isub dX10_carry_107 ?_
      rw [pk_sub hfa]
      refine ax_istore dX10_carry_108 (Nat.le_of_ble_eq_true rfl) ?_
      refine ax_iinc dX10_carry_110 rfl (ax_inc 1) ?_
      refine ax_goto 19 dX10_carry_113 (by decide) ?_
      rw [nI_add]
      have hb2 : But h (ax_wr (ax_wr (ax_wr h2 144 (eI 10 (upd f144 r (f144 r + nI l)))) 143 (eI 50 (upd f143 (5 * r + tr 2 t) (f143 (5 * r + tr 2 t) + nI (l * shock N σ r (tr 2 t) / 100))))) (k + 4) (eI 5 (upd f4 (tr 2 t) (f4 (tr 2 t) + nI (l * shock N σ r (tr 2 t) / 100))))) (crP k) := (((hb.tr (hs2.but (fun j z1 z2 => by unfold crP; omega))).wr (by unfold crP; omega)).wr (by unfold crP; omega)).wr (by unfold crP; omega)
      have kp3 : ∀ j, j ≠ 144 → j ≠ 143 → j ≠ k + 4 → (ax_wr (ax_wr (ax_wr h2 144 (eI 10 (upd f144 r (f144 r + nI l)))) 143 (eI 50 (upd f143 (5 * r + tr 2 t) (f143 (5 * r + tr 2 t) + nI (l * shock N σ r (tr 2 t) / 100))))) (k + 4) (eI 5 (upd f4 (tr 2 t) (f4 (tr 2 t) + nI (l * shock N σ r (tr 2 t) / 100))))).2.2 j = h2.2.2 j := fun j z1 z2 z3 => (ax_wr_ne z3).trans ((ax_wr_ne z2).trans (ax_wr_ne z1))
      obtain ⟨s1, s2, s3, s4, s5, s6, g, s7, s8⟩ := hS2
      refine ih (i + 1) _ (adN ps2 r l) (adN ly2 (5 * r + tr 2 t) (l * shock N σ r (tr 2 t) / 100)) (adN fe2 (tr 2 t) (l * shock N σ r (tr 2 t) / 100)) _ _ _ hd1 (by omega) (by omega) hb2 ⟨(kp3 131 (by omega) (by omega) (by omega)).trans s1, s2.kept (kp3 _ (by omega) (by omega) (by omega)), s3.kept (kp3 _ (by omega) (by omega) (by omega)), s4.kept (kp3 _ (by omega) (by omega) (by omega)), s5.kept (kp3 _ (by omega) (by omega) (by omega)), s6.kept (kp3 _ (by omega) (by omega) (by omega)), g, (kp3 _ (by omega) (by omega) (by omega)).trans s7, s8⟩ ((kp3 _ (by omega) (by omega) (by omega)).trans e142) ⟨_, (ax_wr_ne (by omega)).trans ax_wr_eq, isA_ad hf143 (by omega)⟩ ⟨_, (ax_wr_ne (by omega)).trans ((ax_wr_ne (by omega)).trans ax_wr_eq), isA_ad hf144 (by omega)⟩ ⟨_, ax_wr_eq, isA_ad hf4 (by omega)⟩ ((kp3 _ (by omega) (by omega) (by omega)).trans ((kp2 _ (by omega)).trans e5)) ((a6.kept (kp2 _ (by omega))).kept (kp3 _ (by omega) (by omega) (by omega))) ?_ hcr
      rw [hfe]
      funext j
      simp only [adN]
      by_cases hj : j = tr 2 t
      · rw [if_pos hj, if_pos hj]; simp; omega
      · rw [if_neg hj, if_neg hj, if_neg hj]
  refine ax_aload_n dX10_carry_0 rfl ?_
  refine ax_getf dX10_carry_1 flX10_101 etk rfl ?_
  refine ax_iload_n dX10_carry_4 rfl ?_
  refine ax_iald dX10_carry_5 etk_3 (ax_ix_nI (by omega) (by decide)) ?_
  rw [hg3 t ht]
  refine ax_istore dX10_carry_6 (Nat.le_of_ble_eq_true rfl) ?_
  refine ax_aload_n dX10_carry_8 rfl ?_
  refine ax_getf dX10_carry_9 flX10_57 etk rfl ?_
  refine ax_iload_n dX10_carry_12 rfl ?_
  refine ax_iald dX10_carry_13 etk_4 (ax_ix_nI (by omega) (by decide)) ?_
  rw [hg4 t ht]
  refine ax_istore dX10_carry_14 (Nat.le_of_ble_eq_true rfl) ?_
  refine ax_iconst dX10_carry_16 (v := nI 0) (by decide) ?_
  refine ax_istore dX10_carry_17 (Nat.le_of_ble_eq_true rfl) ?_
  exact loop w 0 (tr 3 t) ps ly fe h none none rfl (by omega) (Nat.le_refl _) But.rf hS e142 a143 a144 a4 ek_5 a6 (by rw [Nat.sub_self]; funext j; simp only [adN]; split <;> simp_all) rfl
end YR
