/-! ===== the model's net ===== -/
section MNT
variable {G : ax_G} {d : Nat} {h : ax_H} {Q : ax_O → ax_H → Prop}
variable {N : Nt} {σ : Sd} {μ : Nat → Option Sd} {th : Int32}
theorem FnB.low {F F' : Nat → Int32} (a : FnB F N) (hs : nS N ≤ 5) (hr : nR N ≤ 10) (hF : ∀ j, j < 84 → F' j = F j) : FnB F' N := by
  obtain ⟨a0, a1, a2, a3, a4, a5⟩ := a
  refine ⟨(hF _ (by omega)).trans a0, (hF _ (by omega)).trans a1, (hF _ (by omega)).trans a2, (hF _ (by omega)).trans a3, fun s z => ?_, fun r z => ?_⟩
  · exact ⟨(hF _ (by omega)).trans (a4 s z).1, (hF _ (by omega)).trans (a4 s z).2⟩
  · exact ⟨(hF _ (by omega)).trans (a5 r z).1, (hF _ (by omega)).trans (a5 r z).2.1, (hF _ (by omega)).trans (a5 r z).2.2⟩
theorem FnT.low {F F' : Nat → Int32} {T : Nat} {tr : Nat → Nat → Nat} (a : FnT F T tr) (ht : T ≤ 6) (hF : ∀ j, j < 84 → F' j = F j) : FnT F' T tr := fun t z i hi => (hF _ (by omega)).trans (a t z i hi)
theorem lwM.low {F F' O A O' A' : Nat → Int32} {l df : Nat} {cs : List Nat} (a : lwM F O A l df cs) (hl : l < 3) (hF : ∀ j, j < 84 → F' j = F j) (hO : ∀ j, j < 1100 → O' j = O j ∧ A' j = A j) : lwM F' O' A' l df cs := by
  rcases a with ⟨a1, a2⟩ | ⟨b, b1, b2, b3, b4⟩
  · exact Or.inl ⟨(hF _ (by omega)).trans a1, a2⟩
  · refine Or.inr ⟨b, (hF _ (by omega)).trans b1, b2, fun j hj => ?_, (hO _ (by omega)).1.trans b4⟩
    exact ⟨(hO _ (by omega)).1.trans (b3 j hj).1, (hO _ (by omega)).2.trans (b3 j hj).2⟩
theorem FnL.low {F F' O A O' A' : Nat → Int32} (a : FnL F O A N) (hF : ∀ j, j < 84 → F' j = F j) (hO : ∀ j, j < 1100 → O' j = O j ∧ A' j = A j) : FnL F' O' A' N := fun h0 => ⟨(a h0).1.low (by omega) hF hO, (a h0).2.1.low (by omega) hF hO, (a h0).2.2.low (by omega) hF hO⟩
def ntM : Nat → Prop := fun j => j = 145 ∨ (147 ≤ j ∧ j ≤ 149) ∨ (151 ≤ j ∧ j ≤ 155) ∨ j = 159 ∨ j = 160
/-- the parser's rows between calls -/
def PsK (h : ax_H) : Prop := (∃ f1 f2 f3 f4 f5, h.2.2 147 = some (eI 1002 f1) ∧ h.2.2 148 = some (eI 1002 f2) ∧ h.2.2 149 = some (eJ 1002 f3) ∧ h.2.2 154 = some (eJ 12 f4) ∧ h.2.2 155 = some (eI 12 f5)) ∧ (∃ f, h.2.2 150 = some (eJ 19 f) ∧ ∀ j, j < 19 → f j = lN (wv (KW j))) ∧ ∃ f, h.2.2 156 = some (eI 8 f) ∧ ∀ j, j < 8 → f j = nI (fwd j)
theorem PsK.kept {h' : ax_H} (a : PsK h) (hk : ∀ j, 147 ≤ j → j ≤ 156 → (j ≤ 150 ∨ 154 ≤ j) → h'.2.2 j = h.2.2 j) : PsK h' := by
  obtain ⟨⟨f1, f2, f3, f4, f5, e1, e2, e3, e4, e5⟩, ⟨f, e6, q6⟩, ⟨g, e7, q7⟩⟩ := a
  exact ⟨⟨f1, f2, f3, f4, f5, (hk _ (by omega) (by omega) (by omega)).trans e1, (hk _ (by omega) (by omega) (by omega)).trans e2, (hk _ (by omega) (by omega) (by omega)).trans e3, (hk _ (by omega) (by omega) (by omega)).trans e4, (hk _ (by omega) (by omega) (by omega)).trans e5⟩, ⟨f, (hk _ (by omega) (by omega) (by omega)).trans e6, q6⟩, ⟨g, (hk _ (by omega) (by omega) (by omega)).trans e7, q7⟩⟩
theorem PsR.K {h' : ax_H} {ts : List CT} {So Va : Nat → Nat} {f4 : Nat → Int64} {f5 : Nat → Int32} (a : PsR h ts So Va) (hk : ∀ j, 147 ≤ j → j ≤ 156 → (j ≤ 150 ∨ j = 156) → h'.2.2 j = h.2.2 j) (e4 : h'.2.2 154 = some (eJ 12 f4)) (e5 : h'.2.2 155 = some (eI 12 f5)) : PsK h' := by
  obtain ⟨⟨f1, f2, f3, e1, e2, e3, -⟩, ⟨f, e6, q6⟩, ⟨g, e7, q7⟩⟩ := a
  exact ⟨⟨f1, f2, f3, f4, f5, (hk _ (by omega) (by omega) (by omega)).trans e1, (hk _ (by omega) (by omega) (by omega)).trans e2, (hk _ (by omega) (by omega) (by omega)).trans e3, e4, e5⟩, ⟨f, (hk _ (by omega) (by omega) (by omega)).trans e6, q6⟩, ⟨g, (hk _ (by omega) (by omega) (by omega)).trans e7, q7⟩⟩
theorem k_net {tp : List Nat} {l : Nat} {D : DD} (hN : nOK N) (hI : MoI h th (nI tp.length) N σ μ) (hT : TpM h tp) (hK : PsK h)
    (hq : ∀ h', But h h' ntM → TpM h' [] → PsK h' → ((¬ (rNet tp l D).1.2 = 0 ∧ MoI h' 0 (nI 0) N σ μ) ∨ ((rNet tp l D).1.2 = 0 ∧ MoI h' 0 (nI 0) (nNet (rNet tp l D)) (s0 (rNet tp l D).2.2.1.2.1) (fun _ => none))) → Q (.inl (some (.int (nI (rNet tp l D).1.2)))) h') : X G (d + 34) mX12_net 0 (ax_in 2 [.ref 145]) [] h Q := by
  obtain ⟨si, pt, fa, co, nm, rd, bc, bm, gg, F, S, O, A, e145, hB⟩ := hI
  obtain ⟨b1, b2, b3, hMC, hMR, hSt, hMk⟩ := id hB
  obtain ⟨e151, e152, e153, e159, a157, a158⟩ := id hMC
  obtain ⟨⟨g1, g2, g3, g4, g5, e147, e148, e149, e154, e155⟩, ⟨fw, e150, qw⟩, ⟨fx, e156, qx⟩⟩ := id hK
  obtain ⟨⟨ft, e146, -⟩, h1000, hok⟩ := id hT
  obtain ⟨Zk, e160, -⟩ := id hMk
  obtain ⟨ht, hNn⟩ := cutA_ok h1000 hok
  have hE : tsE (cutA tp) := cutA_E
  have hQ := cutA_R hok
  have ht1 := ht.1
  have hlen : 0 < (cutA tp).length := by unfold cutA; rw [List.length_append, List.length_singleton]; omega
  obtain ⟨hlr, hZo⟩ := rNet_L (l := l) (D := D) h1000 hok
  have hZe : mRead (cutA tp) 1001 (r0 l D) = rNet tp l D := rfl
  generalize rNet tp l D = Z at hq hlr hZo hZe
  generalize hts : cutA tp = ts at ht hE hQ ht1 hlen hZo hZe
  have tp0 : ∀ h', h'.2.2 146 = h.2.2 146 → TpM h' [] := fun h' e => ⟨⟨ft, e.trans e146, fun j z => absurd z (Nat.not_lt_zero _)⟩, Nat.zero_le _, fun s z => by cases z⟩
  have fin : ∀ (h1 : ax_H) (F1 O1 A1 : Nat → Int32) (f1 : Nat → Int64) (g1 : Nat → Int32) (n1 : Nat) (co1 rd1 x : Int32), But h h1 (fun j => cuP j ∨ lnP j) → PsR h1 ts (soT tp) (vaT tp) → h1.2.2 145 = some (eM 0 (nI 0) (nI tp.length) (nI Z.1.1) (nI Z.1.2) co1 (nI n1) rd1 0 0 (-1) (-1) bc bm gg) → h1.2.2 151 = some (eI 168 F1) → h1.2.2 152 = some (eI 2200 O1) → h1.2.2 153 = some (eI 2200 A1) → h1.2.2 154 = some (eJ 12 f1) → h1.2.2 155 = some (eI 12 g1) → (∀ j, j < 84 → F1 j = F j) → (∀ j, j < 1100 → O1 j = O j ∧ A1 j = A j) → (Z.1.2 = 0 → DmI ts (vaT tp) F1 f1 g1 n1 Z.2.2.1 ∧ LwM F1 O1 A1 Z.2.2.2 (cnL Z.2.2.2) ∧ co1 = nI (cnL Z.2.2.2 + Z.2.2.2.1.length)) → X G (d + 34) mX12_net 90 [some (.ref 145), some (.int x)] [] h1 Q := by
    intro h1 F1 O1 A1 f1 g1 n1 co1 rd1 x hb1 hP1 e145 e151 e152 e153 e154 e155 hF hO hz
    have hz2 := hZo.1.2
    have k1 : ∀ j, ¬ (cuP j ∨ lnP j) → h1.2.2 j = h.2.2 j := hb1.2.2
    have k159 := k1 159 (by unfold cuP lnP; omega)
    have k160 := k1 160 (by unfold cuP lnP; omega)
    have k146 := k1 146 (by unfold cuP lnP; omega)
    have r157 : anA h1 157 8 := by
      obtain ⟨f, e⟩ := a157; exact ⟨f, (k1 157 (by unfold cuP lnP; omega)).trans e⟩
    have r158 : anA h1 158 1100 := by
      obtain ⟨f, e⟩ := a158; exact ⟨f, (k1 158 (by unfold cuP lnP; omega)).trans e⟩
    have rMR : MR h1 := hMR.kept (fun j z1 z2 => k1 j (by unfold cuP lnP; omega))
    by_cases h0 : Z.1.2 = 0
    · obtain ⟨⟨hTb, -, -⟩, hLw, hco⟩ := hz h0
      have cl := cnL_le (L := Z.2.2.2)
      have ll := hlr.1
      obtain ⟨-, hS5, -, hR10, hT6, -⟩ := hZo
      rw [hco] at e145
      refine ax_aload_n dX12_net_90 rfl ?_
      refine ax_getf dX12_net_91 flX12_156 e145 rfl ?_
      refine ax_if_leT 102 dX12_net_94 (by decide) (by rw [h0]; decide) ?_
      refine k_ne1 e145 e151 (fun h2 F2 x2 hb2 e151 hF2 => ?_)
      have e145 := (hb2.2.2 145 (by decide)).trans e145
      refine k_ne2 (by omega) e145 ((hb2.2.2 152 (by decide)).trans e152) ((hb2.2.2 153 (by decide)).trans e153) (fun h3 O3 A3 x3 hb3 e152 e153 hO3 => ?_)
      have e145 := (hb3.2.2 145 (by decide)).trans e145
      have e151 := (hb3.2.2 151 (by decide)).trans e151
      have e159 := (hb3.2.2 159 (by decide)).trans ((hb2.2.2 159 (by decide)).trans (k159.trans e159))
      refine k_ne3 e145 e159 (fun h4 S4 x4 hb4 e159 hS4 => ?_)
      have e145 := (hb4.2.2 145 (by decide)).trans e145
      have e151 := (hb4.2.2 151 (by decide)).trans e151
      have hF22 : F2 2 = nI (nR Z.2.2.1.1) := (hF2 2 (by omega)).trans hTb.1.2.2.1
      refine k_ne4 (d := d + 33) hR10 hF22 e145 e151 e159 (fun h5 S5 x5 hb5 e159 hS5' hS5n => ?_)
      have e145 := (hb5.2.2 145 (by decide)).trans e145
      refine k_ne5 e145 e159 (fun h6 S6 x6 hb6 e159 hS6 hS6n => ?_)
      have e145 := (hb6.2.2 145 (by decide)).trans e145
      have e160 := (hb6.2.2 160 (by decide)).trans ((hb5.2.2 160 (by decide)).trans ((hb4.2.2 160 (by decide)).trans ((hb3.2.2 160 (by decide)).trans ((hb2.2.2 160 (by decide)).trans (k160.trans e160)))))
      refine k_ne6 e145 e160 (fun h7 Z7 x7 hb7 e160 hZ7 => ?_)
      have e145 := (hb7.2.2 145 (by decide)).trans e145
      have kk : ∀ j, ¬ (j = 151 ∨ j = 152 ∨ j = 153 ∨ j = 159 ∨ j = 160) → h7.2.2 j = h1.2.2 j := fun j z => (hb7.2.2 j (by omega)).trans ((hb6.2.2 j (by omega)).trans ((hb5.2.2 j (by omega)).trans ((hb4.2.2 j (by omega)).trans ((hb3.2.2 j (by omega)).trans (hb2.2.2 j (by omega))))))
      have c151 : h7.2.2 151 = some (eI 168 F2) := (hb7.2.2 151 (by decide)).trans ((hb6.2.2 151 (by decide)).trans ((hb5.2.2 151 (by decide)).trans e151))
      have c152 : h7.2.2 152 = some (eI 2200 O3) := (hb7.2.2 152 (by decide)).trans ((hb6.2.2 152 (by decide)).trans ((hb5.2.2 152 (by decide)).trans ((hb4.2.2 152 (by decide)).trans e152)))
      have c153 : h7.2.2 153 = some (eI 2200 A3) := (hb7.2.2 153 (by decide)).trans ((hb6.2.2 153 (by decide)).trans ((hb5.2.2 153 (by decide)).trans ((hb4.2.2 153 (by decide)).trans e153)))
      have c159 : h7.2.2 159 = some (eI 12840 S6) := (hb7.2.2 159 (by decide)).trans e159
      have hbb : But h h7 ntM := ⟨hb7.1.trans (hb6.1.trans (hb5.1.trans (hb4.1.trans (hb3.1.trans (hb2.1.trans hb1.1))))), hb7.2.1.trans (hb6.2.1.trans (hb5.2.1.trans (hb4.2.1.trans (hb3.2.1.trans (hb2.2.1.trans hb1.2.1))))), fun j z => (kk j (fun y => z (by unfold ntM; omega))).trans (k1 j (fun y => z (by unfold cuP lnP at y; unfold ntM; omega)))⟩
      have cS : ∀ j, j < 2140 → (j < 1 ∨ 1 + nR Z.2.2.1.1 ≤ j) → (j < 111 ∨ 117 ≤ j) → S6 j = nI 0 := fun j z1 z2 z3 => (hS6n j z3).trans ((hS5n j z2).trans (hS4 j z1))
      have hMo : MoI h7 0 (nI 0) (nNet Z) (s0 Z.2.2.1.2.1) (fun _ => none) := by
        refine ⟨_, _, _, _, _, _, _, _, _, F2, S6, O3, A3, e145, ?_, ?_, ?_, ⟨c151, c152, c153, c159, ?_, ?_⟩, ?_, ?_, ?_⟩
        · exact FnB.low (N := Z.2.2.1.1) hTb.1 hS5 hR10 (fun j z => hF2 j z)
        · exact FnT.low (T := nT Z.2.2.1.1) (tr := trN Z.2.2.1.1) hTb.2.1 hT6 (fun j z => hF2 j z)
        · exact fun _ => ⟨hLw.fin (by omega) ll cl (hF2 4 (by omega)) hO3 (fun z => flA3_0 ll z), hLw.fin (by omega) ll cl (hF2 5 (by omega)) hO3 (fun z => flA3_1 ll z), hLw.fin (by omega) ll cl (hF2 6 (by omega)) hO3 (fun z => flA3_2 ll z)⟩
        · obtain ⟨f, e⟩ := r157; exact ⟨f, (kk 157 (by omega)).trans e⟩
        · obtain ⟨f, e⟩ := r158; exact ⟨f, (kk 158 (by omega)).trans e⟩
        · exact rMR.kept (fun j z1 z2 => kk j (by omega))
        · refine ⟨⟨cS 0 (by omega) (by omega) (by omega), fun r hr => ?_, fun c hc => cS _ (by omega) (by omega) (by omega), fun c hc => cS _ (by omega) (by omega) (by omega)⟩, ⟨fun t z => (hS6 t z).trans (show (-1 : Int32) = nI 0 - nI 1 from by decide), fun t z => cS _ (by omega) (by omega) (by omega), fun s z => ?_⟩, fun s z => cS _ (by omega) (by omega) (by omega), fun z r s w => absurd w (Nat.not_lt_zero _)⟩
          · have hr' : r < nR Z.2.2.1.1 := hr
            rw [hS6n _ (by omega), hS5' r hr', hF2 _ (by omega)]
            exact hTb.2.2 r hr'
          · have z' : s < nS Z.2.2.1.1 := z
            exact cS _ (by omega) (by omega) (by omega)
        · exact ⟨Z7, e160, fun m z => ⟨hZ7 m z, fun τ y => by cases y⟩⟩
      have hend := hq h7 hbb (tp0 h7 ((kk 146 (by omega)).trans k146)) (hP1.K (fun j z1 z2 z3 => kk j (by omega)) ((kk 154 (by omega)).trans e154) ((kk 155 (by omega)).trans e155)) (Or.inr ⟨h0, hMo⟩)
      rw [h0] at hend
      refine ax_iconst dX12_net_282 (v := nI 0) (by decide) ?_
      exact ax_ireturn dX12_net_283 rfl hend
    · refine ax_aload_n dX12_net_90 rfl ?_
      refine ax_getf dX12_net_91 flX12_156 e145 rfl ?_
      refine ax_if_leF 102 dX12_net_94 (by decide) (nI_np (by omega) h0) ?_
      have hbb : But h h1 ntM := hb1.wide (fun j z => by unfold cuP lnP at z; unfold ntM; omega)
      have hMo : MoI h1 0 (nI 0) N σ μ := ⟨_, _, _, _, _, _, _, _, _, F1, S, O1, A1, e145, b1.low hN.1 hN.2.2.1 hF, b2.low hN.2.2.2.1 hF, b3.low hF hO, ⟨e151, e152, e153, k159.trans e159, r157, r158⟩, rMR, hSt, hMk.kept k160⟩
      refine ax_aload_n dX12_net_97 rfl ?_
      refine ax_getf dX12_net_98 flX12_156 e145 rfl ?_
      exact ax_ireturn dX12_net_101 rfl (hq h1 hbb (tp0 h1 k146) (hP1.K (fun j z1 z2 z3 => rfl) e154 e155) (Or.inl ⟨h0, hMo⟩))
  have loop : ∀ (m : Nat) (r : RS) (h1 : ax_H) (F1 O1 A1 : Nat → Int32) (f1 : Nat → Int64) (g1 : Nat → Int32) (n1 : Nat) (co1 rd1 x : Int32), (¬ r.1.2 = 0 ∨ ts.length ≤ m + r.1.1) → rOK ts r → rL r → mRead ts m r = Z → But h h1 (fun j => cuP j ∨ lnP j) → PsR h1 ts (soT tp) (vaT tp) → h1.2.2 145 = some (eM 0 (nI 0) (nI tp.length) (nI r.1.1) (nI r.1.2) co1 (nI n1) rd1 0 0 (-1) (-1) bc bm gg) → h1.2.2 151 = some (eI 168 F1) → h1.2.2 152 = some (eI 2200 O1) → h1.2.2 153 = some (eI 2200 A1) → h1.2.2 154 = some (eJ 12 f1) → h1.2.2 155 = some (eI 12 g1) → (∀ j, j < 84 → F1 j = F j) → (∀ j, j < 1100 → O1 j = O j ∧ A1 j = A j) → (r.1.2 = 0 → DmI ts (vaT tp) F1 f1 g1 n1 r.2.2.1 ∧ LwM F1 O1 A1 r.2.2.2 (cnL r.2.2.2) ∧ co1 = nI (cnL r.2.2.2 + r.2.2.2.1.length)) → X G (d + 34) mX12_net 58 [some (.ref 145), some (.int x)] [] h1 Q := by
    intro m
    induction m with
    | zero =>
      intro r h1 F1 O1 A1 f1 g1 n1 co1 rd1 x hm ho hrL hj hb1 hP1 e145 e151 e152 e153 e154 e155 hF hO hz
      have oo := ho.1.1
      have o2 := ho.1.2
      have h0 : ¬ r.1.2 = 0 := hm.resolve_right (by omega)
      have hj' : r = Z := hj
      refine ax_aload_n dX12_net_58 rfl ?_
      refine ax_getf dX12_net_59 flX12_156 e145 rfl ?_
      refine ax_if_neT 90 dX12_net_62 (by decide) (fun z => h0 ((nI_eq (by omega) (by omega)).mp z)) ?_
      rw [hj'] at e145 hz
      exact fin h1 F1 O1 A1 f1 g1 n1 co1 rd1 _ hb1 hP1 e145 e151 e152 e153 e154 e155 hF hO hz
    | succ m ih =>
      intro r h1 F1 O1 A1 f1 g1 n1 co1 rd1 x hm ho hrL hj hb1 hP1 e145 e151 e152 e153 e154 e155 hF hO hz
      have oo := ho.1.1
      have o2 := ho.1.2
      obtain ⟨⟨p1, p2, p3, e147, e148, e149, qq⟩, -⟩ := id hP1
      have r1 := (qq _ oo).1
      have t0 := (hQ _ oo).2.1
      have s5 := (hQ _ oo).1
      unfold mRead at hj
      by_cases h0 : r.1.2 = 0
      · by_cases hk : kA ts r.1.1 = 0
        · rw [if_neg (fun z => z.2 hk)] at hj
          refine ax_aload_n dX12_net_58 rfl ?_
          refine ax_getf dX12_net_59 flX12_156 e145 rfl ?_
          refine ax_if_neF 90 dX12_net_62 (by decide) (by rw [h0]; rfl) ?_
          refine ax_aload_n dX12_net_65 rfl ?_
          refine ax_getf dX12_net_66 flX12_24 e145 rfl ?_
          refine ax_aload_n dX12_net_69 rfl ?_
          refine ax_getf dX12_net_70 flX12_153 e145 rfl ?_
          refine ax_iald dX12_net_73 e147 (ax_ix_nI (j := r.1.1) (by omega) (by decide)) ?_
          rw [r1]
          refine ax_if_eqT 90 dX12_net_74 (by decide) (by rw [t0.mpr hk]; rfl) ?_
          rw [hj] at e145 hz
          exact fin h1 F1 O1 A1 f1 g1 n1 co1 rd1 _ hb1 hP1 e145 e151 e152 e153 e154 e155 hF hO hz
        · rw [if_pos ⟨h0, hk⟩] at hj
          obtain ⟨z1, z2, z3⟩ := hz h0
          rw [z3] at e145
          refine ax_aload_n dX12_net_58 rfl ?_
          refine ax_getf dX12_net_59 flX12_156 e145 rfl ?_
          refine ax_if_neF 90 dX12_net_62 (by decide) (by rw [h0]; rfl) ?_
          refine ax_aload_n dX12_net_65 rfl ?_
          refine ax_getf dX12_net_66 flX12_24 e145 rfl ?_
          refine ax_aload_n dX12_net_69 rfl ?_
          refine ax_getf dX12_net_70 flX12_153 e145 rfl ?_
          refine ax_iald dX12_net_73 e147 (ax_ix_nI (j := r.1.1) (by omega) (by decide)) ?_
          rw [r1]
          refine ax_if_eqF 90 dX12_net_74 (by decide) (fun z => hk (t0.mp ((nI_eq (by omega) (by omega)).mp z))) ?_
          refine ax_aload_n dX12_net_77 rfl ?_
          refine ax_cV dX12_net_78 mmX12_readLine lkX12_188 miX12_readLine msX12_readLine (ax_recv_of e145 rfl) rfl rfl (Nat.le_of_ble_eq_true rfl) (Nat.le_of_ble_eq_true rfl) rfl rfl (k_readLine (d := d) h0 hk ho hrL z1 z2 ht hE hQ e145 hP1 e151 e152 e153 e154 e155 (fun h2 F2 O2 A2 f2 g2 n2 p co2 rd2 hb2 op ep e145 e151 e152 e153 e154 e155 hF2 hO2 hz2 => ⟨_, rfl, ?_⟩))
          have hP2 := hP1.k7 hb2
          have hb2 := hb1.tr (hb2.wide (P' := fun j => cuP j ∨ lnP j) (fun j z => Or.inr z))
          refine ax_aload_n dX12_net_81 rfl ?_
          refine ax_bipush dX12_net_82 (v := nI 59) (by decide) ?_
          refine ax_cV dX12_net_84 mmX12_takeSign lkX12_191 miX12_takeSign msX12_takeSign (ax_recv_of e145 rfl) rfl rfl (Nat.le_of_ble_eq_true rfl) (Nat.le_of_ble_eq_true rfl) rfl rfl (k_takeSign (q := 2) (d := d + 32) (by omega) ht hE op hQ e145 hP2 (fun h3 hb3 e145 => ⟨_, rfl, ?_⟩))
          rw [show 4 + 2 = 6 from rfl, ep] at e145
          have hP3 := hP2.k1 hb3
          have up := mLine_up ht hE ho
          refine ax_goto 58 dX12_net_87 (by decide) ?_
          refine ih (mLine ts r) h3 F2 O2 A2 f2 g2 n2 co2 rd2 _ ?_ (mLine_ok ht ho) (mLine_L ht hE ho hrL) hj (hb2.tr (hb3.wide (fun j z => Or.inl (Or.inl z)))) hP3 e145 ((hb3.2.2 151 (by decide)).trans e151) ((hb3.2.2 152 (by decide)).trans e152) ((hb3.2.2 153 (by decide)).trans e153) ((hb3.2.2 154 (by decide)).trans e154) ((hb3.2.2 155 (by decide)).trans e155) (fun j z => (hF2 j z).trans (hF j z)) (fun j z => ⟨(hO2 j z).1.trans (hO j z).1, (hO2 j z).2.trans (hO j z).2⟩) hz2
          by_cases hf : (mLine ts r).1.2 = 0
          · right; have := up hf; omega
          · exact Or.inl hf
      · rw [if_neg (fun z => h0 z.1)] at hj
        refine ax_aload_n dX12_net_58 rfl ?_
        refine ax_getf dX12_net_59 flX12_156 e145 rfl ?_
        refine ax_if_neT 90 dX12_net_62 (by decide) (fun z => h0 ((nI_eq (by omega) (by omega)).mp z)) ?_
        rw [hj] at e145 hz
        exact fin h1 F1 O1 A1 f1 g1 n1 co1 rd1 _ hb1 hP1 e145 e151 e152 e153 e154 e155 hF hO hz
  have mid : ∀ (h2 : ax_H), But h h2 cuP → RwM h2 tp → h2.2.2 145 = some (eM 0 (nI 0) (nI tp.length) (nI 0) (nI 0) (nI 0) (nI 0) rd 0 0 (-1) (-1) bc bm gg) → X G (d + 34) mX12_net 19 [some (.ref 145), none] [] h2 Q := by
    intro h2 hb2 hRw e145
    have k2 : ∀ j, ¬ cuP j → h2.2.2 j = h.2.2 j := hb2.2.2
    have hT2 := hRw.t
    rw [hts] at hT2
    have P2 : PsR h2 ts (soT tp) (vaT tp) := ⟨hT2, ⟨fw, (k2 150 (by unfold cuP; omega)).trans e150, qw⟩, ⟨fx, (k2 156 (by unfold cuP; omega)).trans e156, qx⟩⟩
    refine k_ne0 e145 ((k2 151 (by unfold cuP; omega)).trans e151) (fun h3 F3 x3 hb3 e151 hz1 hz2 hz3 => ?_)
    exact loop 1001 (r0 l D) h3 F3 O A g4 g5 0 (nI 0) rd x3 (Or.inr (by show ts.length ≤ 1001 + 0; omega)) (r0_ok hlen) r0_L hZe ((hb2.wide (fun j z => Or.inl z)).tr (hb3.wide (fun j z => Or.inr (by unfold lnP; omega)))) (P2.kept (fun j z1 z2 => hb3.2.2 j (by omega))) ((hb3.2.2 145 (by decide)).trans e145) e151 ((hb3.2.2 152 (by decide)).trans ((k2 152 (by unfold cuP; omega)).trans e152)) ((hb3.2.2 153 (by decide)).trans ((k2 153 (by unfold cuP; omega)).trans e153)) ((hb3.2.2 154 (by decide)).trans ((k2 154 (by unfold cuP; omega)).trans e154)) ((hb3.2.2 155 (by decide)).trans ((k2 155 (by unfold cuP; omega)).trans e155)) hz1 (fun _ _ => ⟨rfl, rfl⟩) (fun _ => ⟨r0_M hz2, r0_W hz3, rfl⟩)
  have strt : ∀ (h1 : ax_H), But h h1 (fun j => j = 145) → h1.2.2 145 = some (eM 0 (nI tp.length) si pt fa co nm rd 0 0 (-1) (-1) bc bm gg) → X G (d + 34) mX12_net 5 [some (.ref 145), none] [] h1 Q := by
    intro h1 hb1 e145
    refine ax_aload_n dX12_net_5 rfl ?_
    refine ax_cV dX12_net_6 mmX12_cutAll lkX12_182 miX12_cutAll msX12_cutAll (ax_recv_of e145 rfl) rfl rfl (Nat.le_of_ble_eq_true rfl) (Nat.le_of_ble_eq_true rfl) rfl rfl (k_cutAll (d := d + 31) e145 ((hb1.2.2 147 (by decide)).trans e147) ((hb1.2.2 148 (by decide)).trans e148) ((hb1.2.2 149 (by decide)).trans e149) (hT.kept (hb1.2.2 146 (by decide))) (fun h2 hb2 e145 hRw => ⟨_, rfl, ?_⟩))
    refine ax_aload_n dX12_net_9 rfl ?_
    refine ax_iconst dX12_net_10 (v := nI 0) (by decide) ?_
    refine ax_putf dX12_net_11 flX12_185 e145 (Nat.le_of_ble_eq_true rfl) (fun _ => ⟨rfl, rfl⟩) ?_
    refine ax_aload_n dX12_net_14 rfl ?_
    refine ax_iconst dX12_net_15 (v := nI 0) (by decide) ?_
    refine ax_putf dX12_net_16 flX12_179 ax_wr_eq (Nat.le_of_ble_eq_true rfl) (fun _ => ⟨rfl, rfl⟩) ?_
    rw [ax_wr_wr]
    refine mid _ (((hb1.wide (P' := cuP) (fun j z => Or.inl z)).tr hb2).wr (Or.inl rfl)) ?_ ax_wr_eq
    obtain ⟨f1, f2, f3, y1, y2, y3, y4⟩ := hRw
    exact ⟨f1, f2, f3, (ax_wr_ne (by decide)).trans y1, (ax_wr_ne (by decide)).trans y2, (ax_wr_ne (by decide)).trans y3, y4⟩
  refine ax_aload_n dX12_net_0 rfl ?_
  refine ax_iconst dX12_net_1 (v := nI 0) (by decide) ?_
  refine ax_putf dX12_net_2 flX12_1 e145 (Nat.le_of_ble_eq_true rfl) (fun _ => ⟨rfl, rfl⟩) ?_
  exact strt _ (But.rf.wr rfl) ax_wr_eq
end MNT
