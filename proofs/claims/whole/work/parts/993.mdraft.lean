/-! ===== the model's draft: stuffs and places ===== -/
section MDR
variable {G : ax_G} {d : Nat} {h : ax_H} {Q : ax_O → ax_H → Prop}
variable {th ta si pt fa co nm rd ask nw os sw bc bm : Int32} {gg : Int64}
variable {ts : List CT} {So Va : Nat → Nat} {s : Nat × Nat} {D : DD}
def TbM (F : Nat → Int32) (D : DD) : Prop := FnB (fun j => F (84 + j)) D.1 ∧ FnT (fun j => F (84 + j)) (nT D.1) (trN D.1) ∧ ∀ r, r < nR D.1 → F (84 + (17 + 4 * r + 3)) = nI (D.2.1 r)
/-- the draft's tables and names of both agree -/
def DmI (ts : List CT) (Va : Nat → Nat) (F : Nat → Int32) (f : Nat → Int64) (g : Nat → Int32) (n : Nat) (D : DD) : Prop := TbM F D ∧ NmI ts Va f g n D ∧ ∀ k, k < n → ¬ g k = -1
def dmP : Nat → Prop := fun j => j = 145 ∨ j = 151 ∨ j = 154 ∨ j = 155
theorem PsR.k4 {h' : ax_H} (a : PsR h ts So Va) (hb : But h h' dmP) : PsR h' ts So Va := a.kept (fun j z1 z2 => hb.2.2 j (by unfold dmP; omega))
theorem NmI.stuff {f : Nat → Int64} {g : Nat → Int32} {n b x y : Nat} (hT : TkQ ts So Va) (hN : NmI ts Va f g n D) (hB : nS D.1 < 5 ∧ nP D.1 ≤ 7) (hg : ∀ k, k < n → ¬ g k = -1) (hb : b < ts.length) (hi : isNm (kA ts b)) (hp : pOf ts D b = none) (_hs : sOf ts D b = none) : NmI ts Va (vp_updL f n (lN (Va b))) (upd g n (nI (7 + nS D.1))) (n + 1) (nStuff D.1 x y, D.2.1, upJ D.2.2.1 (nS D.1) (vA ts b), D.2.2.2) := by
  refine ⟨?_, fun a ha hia => ?_⟩
  · have := hN.1
    show n + 1 = nS D.1 + 1 + nP D.1
    omega
  · obtain ⟨e1, e2⟩ := hN.2 a ha hia
    have hpl : ∀ j, pOf ts D a = some j → j < 7 := fun j z => by have := nmOf_lt z; omega
    have hsl : ∀ j, sOf ts D a = some j → j < 5 := fun j z => by have := nmOf_lt z; omega
    have es : sOf ts (nStuff D.1 x y, D.2.1, upJ D.2.2.1 (nS D.1) (vA ts b), D.2.2.2) a = match sOf ts D a with
      | some k => some k
      | none => if vA ts b = vA ts a then some (nS D.1) else none := nmOf_up
    have ep : pOf ts (nStuff D.1 x y, D.2.1, upJ D.2.2.1 (nS D.1) (vA ts b), D.2.2.2) a = pOf ts D a := rfl
    rw [ep, es, fnM_up]
    cases hf : fst (fun k => f k == lN (Va a)) 0 n with
    | some k =>
      have hk : fnM f g n (lN (Va a)) = g k := by unfold fnM; rw [hf]
      have hne := hg k (by have := (fst_lt hf).2.1; omega)
      rw [← hk, e1] at hne
      dsimp only
      rw [← hk, e1]
      rcases nmR_3 hpl hsl e2 with ⟨p, q, e⟩ | ⟨a', p, q, z, e⟩ | ⟨b', q, p, z, e⟩
      · exact absurd e hne
      · rw [p, q]
        have hv : ¬ vA ts b = vA ts a := fun z => by
          have : pOf ts D b = pOf ts D a := by unfold pOf; rw [z]
          rw [hp, p] at this; cases this
        dsimp only
        rw [if_neg hv]
        exact ⟨rfl, Or.inr rfl⟩
      · rw [p, q]
        exact ⟨rfl, Or.inl rfl⟩
    | none =>
      have hk : fnM f g n (lN (Va a)) = -1 := by unfold fnM; rw [hf]
      rw [e1] at hk
      obtain ⟨p, q⟩ := (nmR_m1 hpl hsl).mp hk
      rw [p, q]
      dsimp only
      by_cases hv : vA ts b = vA ts a
      · rw [if_pos ((tkQ_nm hT ha hb hia hi).mpr hv), if_pos hv]
        exact ⟨rfl, Or.inl rfl⟩
      · rw [if_neg (fun z => hv ((tkQ_nm hT ha hb hia hi).mp z)), if_neg hv]
        exact ⟨rfl, Or.inl rfl⟩
theorem NmI.place {f : Nat → Int64} {g : Nat → Int32} {n b : Nat} (hT : TkQ ts So Va) (hN : NmI ts Va f g n D) (hB : nS D.1 ≤ 5 ∧ nP D.1 < 7) (hg : ∀ k, k < n → ¬ g k = -1) (hb : b < ts.length) (hi : isNm (kA ts b)) (_hp : pOf ts D b = none) (hs : sOf ts D b = none) : NmI ts Va (vp_updL f n (lN (Va b))) (upd g n (nI (nP D.1))) (n + 1) (nPlace D.1, D.2.1, D.2.2.1, upJ D.2.2.2 (nP D.1) (vA ts b)) := by
  refine ⟨?_, fun a ha hia => ?_⟩
  · have := hN.1
    show n + 1 = nS D.1 + (nP D.1 + 1)
    omega
  · obtain ⟨e1, e2⟩ := hN.2 a ha hia
    have hpl : ∀ j, pOf ts D a = some j → j < 7 := fun j z => by have := nmOf_lt z; omega
    have hsl : ∀ j, sOf ts D a = some j → j < 5 := fun j z => by have := nmOf_lt z; omega
    have ep : pOf ts (nPlace D.1, D.2.1, D.2.2.1, upJ D.2.2.2 (nP D.1) (vA ts b)) a = match pOf ts D a with
      | some k => some k
      | none => if vA ts b = vA ts a then some (nP D.1) else none := nmOf_up
    have es : sOf ts (nPlace D.1, D.2.1, D.2.2.1, upJ D.2.2.2 (nP D.1) (vA ts b)) a = sOf ts D a := rfl
    rw [ep, es, fnM_up]
    cases hf : fst (fun k => f k == lN (Va a)) 0 n with
    | some k =>
      have hk : fnM f g n (lN (Va a)) = g k := by unfold fnM; rw [hf]
      have hne := hg k (by have := (fst_lt hf).2.1; omega)
      rw [← hk, e1] at hne
      dsimp only
      rw [← hk, e1]
      rcases nmR_3 hpl hsl e2 with ⟨p, q, e⟩ | ⟨a', p, q, z, e⟩ | ⟨b', q, p, z, e⟩
      · exact absurd e hne
      · rw [p, q]
        exact ⟨rfl, Or.inr rfl⟩
      · rw [p, q]
        have hv : ¬ vA ts b = vA ts a := fun z => by
          have : sOf ts D b = sOf ts D a := by unfold sOf; rw [z]
          rw [hs, q] at this; cases this
        dsimp only
        rw [if_neg hv]
        exact ⟨rfl, Or.inl rfl⟩
    | none =>
      have hk : fnM f g n (lN (Va a)) = -1 := by unfold fnM; rw [hf]
      rw [e1] at hk
      obtain ⟨p, q⟩ := (nmR_m1 hpl hsl).mp hk
      rw [p, q]
      dsimp only
      by_cases hv : vA ts b = vA ts a
      · rw [if_pos ((tkQ_nm hT ha hb hia hi).mpr hv), if_pos hv]
        exact ⟨rfl, Or.inr rfl⟩
      · rw [if_neg (fun z => hv ((tkQ_nm hT ha hb hia hi).mp z)), if_neg hv]
        exact ⟨rfl, Or.inl rfl⟩
theorem g_up {g : Nat → Int32} {n w : Nat} (hw : w < 12) (hg : ∀ k, k < n → ¬ g k = -1) : ∀ k, k < n + 1 → ¬ upd g n (nI w) k = -1 := fun k hk => by
  unfold upd
  by_cases e : k = n
  · rw [if_pos e]; exact nI_m1 (by omega)
  · rw [if_neg e]; exact hg k (by omega)
theorem upd_ne {F : Nat → Int32} {k j : Nat} {v : Int32} (hj : ¬ j = k) : upd F k v j = F j := if_neg hj
theorem upd_eq {F : Nat → Int32} {k : Nat} {v : Int32} : upd F k v k = v := if_pos rfl
theorem TbM.stuff {F : Nat → Int32} {x y : Nat} {sn pn : Nat → Int64} (a : TbM F D) (h5 : nS D.1 < 5) : TbM (upd (upd (upd F (91 + 2 * nS D.1) (nI x)) (91 + 2 * nS D.1 + 1) (nI y)) 84 (nI (nS D.1 + 1))) (nStuff D.1 x y, D.2.1, sn, pn) := by
  obtain ⟨⟨a0, a1, a2, a3, a4, a5⟩, a6, a7⟩ := a
  refine ⟨⟨?_, ?_, ?_, ?_, fun q hq => ?_, fun r hr => ?_⟩, fun t ht i hi => ?_, fun r hr => ?_⟩
  · exact upd_eq
  · dsimp only; rw [upd_ne (by omega), upd_ne (by omega), upd_ne (by omega)]; exact a1
  · dsimp only; rw [upd_ne (by omega), upd_ne (by omega), upd_ne (by omega)]; exact a2
  · dsimp only; rw [upd_ne (by omega), upd_ne (by omega), upd_ne (by omega)]; exact a3
  · have hq' : q < nS D.1 + 1 := hq
    show _ = nI (upN (D.1.1 1) (nS D.1) x q) ∧ _ = nI (upN (D.1.1 2) (nS D.1) y q)
    unfold upN
    by_cases e : q = nS D.1
    · rw [if_pos e, if_pos e, e]
      dsimp only
      rw [upd_ne (by omega), upd_ne (by omega), show 84 + (7 + 2 * nS D.1) = 91 + 2 * nS D.1 by omega, upd_eq, upd_ne (by omega), show 84 + (7 + 2 * nS D.1 + 1) = 91 + 2 * nS D.1 + 1 by omega, upd_eq]
      exact ⟨rfl, rfl⟩
    · rw [if_neg e, if_neg e]
      dsimp only
      rw [upd_ne (by omega), upd_ne (by omega), upd_ne (by omega), upd_ne (by omega), upd_ne (by omega), upd_ne (by omega)]
      exact a4 q (by omega)
  · have hr' : r < nR D.1 := hr
    dsimp only
    repeat rw [upd_ne (by omega)]
    exact a5 r hr'
  · have ht' : t < nT D.1 := ht
    have := a6 t ht' i hi
    dsimp only
    repeat rw [upd_ne (by omega)]
    exact this.trans (by unfold trN; show nI _ = nI (if 6 + i = 0 then _ else if 6 + i = 1 then _ else if 6 + i = 2 then _ else _); rw [if_neg (by omega), if_neg (by omega), if_neg (by omega)])
  · dsimp only
    repeat rw [upd_ne (by omega)]
    exact a7 r hr
theorem TbM.place {F : Nat → Int32} {sn pn : Nat → Int64} (a : TbM F D) : TbM (upd F 85 (nI (nP D.1 + 1))) (nPlace D.1, D.2.1, sn, pn) := by
  obtain ⟨⟨a0, a1, a2, a3, a4, a5⟩, a6, a7⟩ := a
  refine ⟨⟨?_, ?_, ?_, ?_, fun q hq => ?_, fun r hr => ?_⟩, fun t ht i hi => ?_, fun r hr => ?_⟩
  · dsimp only; rw [upd_ne (by omega)]; exact a0
  · exact upd_eq
  · dsimp only; rw [upd_ne (by omega)]; exact a2
  · dsimp only; rw [upd_ne (by omega)]; exact a3
  · dsimp only
    rw [upd_ne (by omega), upd_ne (by omega)]
    exact a4 q hq
  · dsimp only
    repeat rw [upd_ne (by omega)]
    exact a5 r hr
  · have := a6 t ht i hi
    dsimp only
    repeat rw [upd_ne (by omega)]
    exact this.trans (by unfold trN; show nI _ = nI (if 6 + i = 0 then _ else _); rw [if_neg (by omega)])
  · dsimp only
    repeat rw [upd_ne (by omega)]
    exact a7 r hr
def pPlace (ts : List CT) (D : DD) (s : Nat × Nat) : Nat × Nat := sName ts D.1 D.2.2.1 D.2.2.2 (sOpen ts (decide (nP D.1 < 7)) 5 s)
def dPlace (ts : List CT) (D : DD) (s : Nat × Nat) : DD := (nPlace D.1, D.2.1, D.2.2.1, upJ D.2.2.2 (nP D.1) (vA ts (sOpen ts (decide (nP D.1 < 7)) 5 s).1))
theorem mPlace_p : mPlace ts D s = (sSkip ts 6 (pPlace ts D s), if (sSkip ts 6 (pPlace ts D s)).2 = 0 then dPlace ts D s else D) := rfl
def pStuff (ts : List CT) (D : DD) (s : Nat × Nat) : Nat × Nat := sNum ts 0 9 (sSkip ts 26 (sNum ts 0 9 (sSkip ts 25 (sName ts D.1 D.2.2.1 D.2.2.2 (sOpen ts (decide (nS D.1 < 5)) 5 s)))))
def dStuff (ts : List CT) (D : DD) (s : Nat × Nat) : DD := (nStuff D.1 (nA ts (sSkip ts 25 (sName ts D.1 D.2.2.1 D.2.2.2 (sOpen ts (decide (nS D.1 < 5)) 5 s))).1) (nA ts (sSkip ts 26 (sNum ts 0 9 (sSkip ts 25 (sName ts D.1 D.2.2.1 D.2.2.2 (sOpen ts (decide (nS D.1 < 5)) 5 s))))).1), D.2.1, upJ D.2.2.1 (nS D.1) (vA ts (sOpen ts (decide (nS D.1 < 5)) 5 s).1), D.2.2.2)
theorem mStuff_p : mStuff ts D s = (sSkip ts 6 (pStuff ts D s), if (sSkip ts 6 (pStuff ts D s)).2 = 0 then dStuff ts D s else D) := rfl
theorem sOpen_y {k : Nat} : sOpen ts true k s = sStep ts s := rfl
theorem sOpen_n {k : Nat} (hk : 1 ≤ k) : sOpen ts false k s = sFail ts k s := sSF hk
theorem k_readPlace {n : Nat} {F : Nat → Int32} {f : Nat → Int64} {g : Nat → Int32} (h0 : s.2 = 0) (hk : ¬ kA ts s.1 = 0) (hB : nS D.1 ≤ 5 ∧ nP D.1 ≤ 7) (hM : DmI ts Va F f g n D) (ht : tsOK ts) (hE : tsE ts) (hs : sOKs ts s) (hT : TkQ ts So Va) (e145 : h.2.2 145 = some (eM th ta si (nI s.1) (nI s.2) co (nI n) rd ask nw os sw bc bm gg)) (hP : PsR h ts So Va) (e151 : h.2.2 151 = some (eI 168 F)) (e154 : h.2.2 154 = some (eJ 12 f)) (e155 : h.2.2 155 = some (eI 12 g)) (hq : ∀ h' F' f' g' n', But h h' dmP → h'.2.2 145 = some (eM th ta si (nI (pPlace ts D s).1) (nI (pPlace ts D s).2) co (nI n') rd ask nw os sw bc bm gg) → h'.2.2 151 = some (eI 168 F') → h'.2.2 154 = some (eJ 12 f') → h'.2.2 155 = some (eI 12 g') → (∀ j, j < 84 ∨ (88 ≤ j ∧ j < 91) → F' j = F j) → ((pPlace ts D s).2 = 0 → DmI ts Va F' f' g' n' (dPlace ts D s)) → Q (.inl none) h') : X G (d + 2) mX12_readPlace 0 (ax_in 2 [.ref 145]) [] h Q := by
  have hF : F 85 = nI (nP D.1) := hM.1.1.2.1
  have hn := hM.2.1.1
  by_cases h7 : nP D.1 = 7
  · have ep : pPlace ts D s = sFail ts 5 s := by
      unfold pPlace
      rw [decide_eq_false (by omega), sOpen_n (by omega), sName_f (sFail_f (by omega))]
    rw [ep] at hq
    refine ax_aload_n dX12_readPlace_0 rfl ?_
    refine ax_getf dX12_readPlace_1 flX12_75 e145 rfl ?_
    refine ax_bipush dX12_readPlace_4 (v := nI 85) (by decide) ?_
    refine ax_iald dX12_readPlace_6 e151 (ax_ix_nI (j := 85) (by omega) (by decide)) ?_
    rw [hF, h7]
    refine ax_istore_n dX12_readPlace_7 (Nat.le_of_ble_eq_true rfl) ?_
    refine ax_iload_n dX12_readPlace_8 rfl ?_
    refine ax_bipush dX12_readPlace_9 (v := nI 7) (by decide) ?_
    refine ax_icmp_neF 20 dX12_readPlace_11 (by decide) (by decide) ?_
    refine ax_aload_n dX12_readPlace_14 rfl ?_
    refine ax_iconst dX12_readPlace_15 (v := nI 5) (by decide) ?_
    refine ax_cV dX12_readPlace_16 mmX12_wrong lkX12_162 miX12_wrong msX12_wrong (ax_recv_of e145 rfl) rfl rfl (Nat.le_of_ble_eq_true rfl) (Nat.le_of_ble_eq_true rfl) rfl rfl (k_wrong (d := d + 1) (k := 5) (by omega) ht hs e145 hP (fun h1 hb1 e1 => ⟨_, rfl, ?_⟩))
    exact ax_return dX12_readPlace_19 rfl (hq _ F f g n (hb1.wide (fun j z => Or.inl z)) e1 ((hb1.2.2 151 (by decide)).trans e151) ((hb1.2.2 154 (by decide)).trans e154) ((hb1.2.2 155 (by decide)).trans e155) (fun _ _ => rfl) (fun z => absurd z (sFail_f (by omega))))
  · have eo : sOpen ts (decide (nP D.1 < 7)) 5 s = sStep ts s := by rw [decide_eq_true (by omega)]; rfl
    unfold pPlace dPlace at hq
    rw [eo] at hq
    refine ax_aload_n dX12_readPlace_0 rfl ?_
    refine ax_getf dX12_readPlace_1 flX12_75 e145 rfl ?_
    refine ax_bipush dX12_readPlace_4 (v := nI 85) (by decide) ?_
    refine ax_iald dX12_readPlace_6 e151 (ax_ix_nI (j := 85) (by omega) (by decide)) ?_
    rw [hF]
    refine ax_istore_n dX12_readPlace_7 (Nat.le_of_ble_eq_true rfl) ?_
    refine ax_iload_n dX12_readPlace_8 rfl ?_
    refine ax_bipush dX12_readPlace_9 (v := nI 7) (by decide) ?_
    refine ax_icmp_neT 20 dX12_readPlace_11 (by decide) (fun z => h7 ((nI_eq (by omega) (by omega)).mp z)) ?_
    refine ax_aload_n dX12_readPlace_20 rfl ?_
    refine ax_iload_n dX12_readPlace_21 rfl ?_
    refine ax_cV dX12_readPlace_22 mmX12_readName lkX12_220 miX12_readName msX12_readName (ax_recv_of e145 rfl) rfl rfl (Nat.le_of_ble_eq_true rfl) (Nat.le_of_ble_eq_true rfl) rfl rfl (k_readName (d := d) h0 hk (by omega) hM.2.1 hB ht hE hs hT e145 hP e154 e155 (fun h1 f1 g1 n1 hb1 e145 e154 e155 hz => ⟨_, rfl, ?_⟩))
    have e151 := (hb1.2.2 151 (by decide)).trans e151
    refine ax_aload_n dX12_readPlace_25 rfl ?_
    refine ax_getf dX12_readPlace_26 flX12_75 e145 rfl ?_
    refine ax_bipush dX12_readPlace_29 (v := nI 85) (by decide) ?_
    refine ax_dup2 dX12_readPlace_31 rfl rfl ?_
    refine ax_iald dX12_readPlace_32 e151 (ax_ix_nI (j := 85) (by omega) (by decide)) ?_
    rw [hF]
    refine ax_iconst dX12_readPlace_33 (v := nI 1) (by decide) ?_
    refine ax_iadd dX12_readPlace_34 ?_
    rw [nI_add (nP D.1) 1]
    refine ax_iast dX12_readPlace_35 e151 (ax_ix_nI (j := 85) (by omega) (by decide)) ?_
    refine ax_return dX12_readPlace_36 rfl (hq _ _ f1 g1 n1 ((hb1.wide (fun j z => by unfold dmP; omega)).wr (Or.inr (Or.inl rfl))) ((ax_wr_ne (by decide)).trans e145) ax_wr_eq ((ax_wr_ne (by decide)).trans e154) ((ax_wr_ne (by decide)).trans e155) (fun j z => upd_ne (by omega)) (fun z => ?_))
    obtain ⟨z1, z2, z3⟩ := hz z
    obtain ⟨y1, y2, y3, y4⟩ := sName_0 z
    refine ⟨hM.1.place, ?_, ?_⟩
    · rw [z1, z2, z3]
      exact hM.2.1.place hT ⟨hB.1, by omega⟩ hM.2.2 (sStep_ok hs).1 y2 y4 y3
    · rw [z1, z3]
      exact g_up (by omega) hM.2.2
theorem k_readStuff {n : Nat} {F : Nat → Int32} {f : Nat → Int64} {g : Nat → Int32} (h0 : s.2 = 0) (hk : ¬ kA ts s.1 = 0) (hB : nS D.1 ≤ 5 ∧ nP D.1 ≤ 7) (hM : DmI ts Va F f g n D) (ht : tsOK ts) (hE : tsE ts) (hs : sOKs ts s) (hT : TkQ ts So Va) (e145 : h.2.2 145 = some (eM th ta si (nI s.1) (nI s.2) co (nI n) rd ask nw os sw bc bm gg)) (hP : PsR h ts So Va) (e151 : h.2.2 151 = some (eI 168 F)) (e154 : h.2.2 154 = some (eJ 12 f)) (e155 : h.2.2 155 = some (eI 12 g)) (hq : ∀ h' F' f' g' n', But h h' dmP → h'.2.2 145 = some (eM th ta si (nI (pStuff ts D s).1) (nI (pStuff ts D s).2) co (nI n') rd ask nw os sw bc bm gg) → h'.2.2 151 = some (eI 168 F') → h'.2.2 154 = some (eJ 12 f') → h'.2.2 155 = some (eI 12 g') → (∀ j, j < 84 ∨ (88 ≤ j ∧ j < 91) → F' j = F j) → ((pStuff ts D s).2 = 0 → DmI ts Va F' f' g' n' (dStuff ts D s)) → Q (.inl none) h') : X G (d + 4) mX12_readStuff 0 (ax_in 2 [.ref 145]) [] h Q := by
  have hF : F 84 = nI (nS D.1) := hM.1.1.1
  have hn := hM.2.1.1
  by_cases h5 : nS D.1 = 5
  · have ep : pStuff ts D s = sFail ts 5 s := by
      have hf : ¬ (sFail ts 5 s).2 = 0 := sFail_f (by omega)
      unfold pStuff
      rw [decide_eq_false (by omega), sOpen_n (by omega), sName_f hf, sSkip_f hf, sNum_f hf, sSkip_f hf, sNum_f hf]
    rw [ep] at hq
    refine ax_aload_n dX12_readStuff_0 rfl ?_
    refine ax_getf dX12_readStuff_1 flX12_75 e145 rfl ?_
    refine ax_bipush dX12_readStuff_4 (v := nI 84) (by decide) ?_
    refine ax_iald dX12_readStuff_6 e151 (ax_ix_nI (j := 84) (by omega) (by decide)) ?_
    rw [hF, h5]
    refine ax_istore_n dX12_readStuff_7 (Nat.le_of_ble_eq_true rfl) ?_
    refine ax_iload_n dX12_readStuff_8 rfl ?_
    refine ax_iconst dX12_readStuff_9 (v := nI 5) (by decide) ?_
    refine ax_icmp_neF 19 dX12_readStuff_10 (by decide) (by decide) ?_
    refine ax_aload_n dX12_readStuff_13 rfl ?_
    refine ax_iconst dX12_readStuff_14 (v := nI 5) (by decide) ?_
    refine ax_cV dX12_readStuff_15 mmX12_wrong lkX12_162 miX12_wrong msX12_wrong (ax_recv_of e145 rfl) rfl rfl (Nat.le_of_ble_eq_true rfl) (Nat.le_of_ble_eq_true rfl) rfl rfl (k_wrong (d := d + 3) (k := 5) (by omega) ht hs e145 hP (fun h1 hb1 e1 => ⟨_, rfl, ?_⟩))
    exact ax_return dX12_readStuff_18 rfl (hq _ F f g n (hb1.wide (fun j z => Or.inl z)) e1 ((hb1.2.2 151 (by decide)).trans e151) ((hb1.2.2 154 (by decide)).trans e154) ((hb1.2.2 155 (by decide)).trans e155) (fun _ _ => rfl) (fun z => absurd z (sFail_f (by omega))))
  · have eo : sOpen ts (decide (nS D.1 < 5)) 5 s = sStep ts s := by rw [decide_eq_true (by omega)]; rfl
    unfold pStuff dStuff at hq
    rw [eo] at hq
    have o1 := sStep_ok hs
    generalize hs1 : sStep ts s = s1 at hq o1
    have o2 : sOKs ts (sName ts D.1 D.2.2.1 D.2.2.2 s1) := sName_ok ht o1
    generalize hs2 : sName ts D.1 D.2.2.1 D.2.2.2 s1 = s2 at hq o2
    have o4 : sOKs ts (sNum ts 0 9 (sSkip ts 25 s2)) := sNum_ok ht (sSkip_ok ht o2)
    generalize hs3 : sSkip ts 25 s2 = s3 at hq o4
    generalize hs4 : sNum ts 0 9 s3 = s4 at hq o4
    generalize hs5 : sSkip ts 26 s4 = s5 at hq
    generalize hs6 : sNum ts 0 9 s5 = s6 at hq
    refine ax_aload_n dX12_readStuff_0 rfl ?_
    refine ax_getf dX12_readStuff_1 flX12_75 e145 rfl ?_
    refine ax_bipush dX12_readStuff_4 (v := nI 84) (by decide) ?_
    refine ax_iald dX12_readStuff_6 e151 (ax_ix_nI (j := 84) (by omega) (by decide)) ?_
    rw [hF]
    refine ax_istore_n dX12_readStuff_7 (Nat.le_of_ble_eq_true rfl) ?_
    refine ax_iload_n dX12_readStuff_8 rfl ?_
    refine ax_iconst dX12_readStuff_9 (v := nI 5) (by decide) ?_
    refine ax_icmp_neT 19 dX12_readStuff_10 (by decide) (fun z => h5 ((nI_eq (by omega) (by omega)).mp z)) ?_
    refine ax_aload_n dX12_readStuff_19 rfl ?_
    refine ax_bipush dX12_readStuff_20 (v := nI 7) (by decide) ?_
    refine ax_iload_n dX12_readStuff_22 rfl ?_
    refine ax_iadd dX12_readStuff_23 ?_
    rw [nI_add 7 (nS D.1)]
    refine ax_cV dX12_readStuff_24 mmX12_readName lkX12_220 miX12_readName msX12_readName (ax_recv_of e145 rfl) rfl rfl (Nat.le_of_ble_eq_true rfl) (Nat.le_of_ble_eq_true rfl) rfl rfl (k_readName (d := d + 2) h0 hk (by omega) hM.2.1 hB ht hE hs hT e145 hP e154 e155 (fun h1 f1 g1 n1 hb1 e145 e154 e155 hz => ⟨_, rfl, ?_⟩))
    rw [hs1, hs2] at hz e145
    have e151 := (hb1.2.2 151 (by decide)).trans e151
    have hb1 : But h h1 dmP := hb1.wide (fun j z => by unfold dmP; omega)
    refine ax_aload_n dX12_readStuff_27 rfl ?_
    refine ax_getf dX12_readStuff_28 flX12_75 e145 rfl ?_
    refine ax_bipush dX12_readStuff_31 (v := nI 91) (by decide) ?_
    refine ax_iconst dX12_readStuff_33 (v := nI 2) (by decide) ?_
    refine ax_iload_n dX12_readStuff_34 rfl ?_
    refine ax_imul dX12_readStuff_35 ?_
    refine ax_iadd dX12_readStuff_36 ?_
    rw [pk_mul 2 (nS D.1), nI_add 91 (2 * nS D.1)]
    refine ax_aload_n dX12_readStuff_37 rfl ?_
    refine ax_iconst dX12_readStuff_38 (v := nI 1) (by decide) ?_
    refine ax_iconst dX12_readStuff_39 (v := nI 0) (by decide) ?_
    refine ax_bipush dX12_readStuff_40 (v := nI 9) (by decide) ?_
    refine ax_cV dX12_readStuff_42 mmX12_takeAfter lkX12_223 miX12_takeAfter msX12_takeAfter (ax_recv_of e145 rfl) rfl rfl (Nat.le_of_ble_eq_true rfl) (Nat.le_of_ble_eq_true rfl) rfl rfl (k_takeAfter (w := 1) (a := 0) (b := 9) (d := d) (by omega) (by omega) (by omega) ht hE o2 hT e145 (hP.k4 hb1) (fun h2 hb2 e145 => ⟨_, rfl, ?_⟩))
    rw [show kwK 1 = 25 from rfl, hs3, hs4] at e145 ⊢
    have e151 := (hb2.2.2 151 (by decide)).trans e151
    have e154 := (hb2.2.2 154 (by decide)).trans e154
    have e155 := (hb2.2.2 155 (by decide)).trans e155
    have hb2 : But h h2 dmP := hb1.tr (hb2.wide (fun j z => Or.inl z))
    refine ax_iast dX12_readStuff_45 e151 (ax_ix_nI (j := 91 + 2 * nS D.1) (by omega) (by decide)) ?_
    have hb3 : But h (ax_wr h2 151 (eI 168 (upd F (91 + 2 * nS D.1) (nI (if s4.2 = 0 then nA ts s3.1 else 0))))) dmP := hb2.wr (Or.inr (Or.inl rfl))
    have e145 : (ax_wr h2 151 (eI 168 (upd F (91 + 2 * nS D.1) (nI (if s4.2 = 0 then nA ts s3.1 else 0))))).2.2 145 = _ := (ax_wr_ne (by decide)).trans e145
    have e151 : (ax_wr h2 151 (eI 168 (upd F (91 + 2 * nS D.1) (nI (if s4.2 = 0 then nA ts s3.1 else 0))))).2.2 151 = _ := ax_wr_eq
    have e154 : (ax_wr h2 151 (eI 168 (upd F (91 + 2 * nS D.1) (nI (if s4.2 = 0 then nA ts s3.1 else 0))))).2.2 154 = _ := (ax_wr_ne (by decide)).trans e154
    have e155 : (ax_wr h2 151 (eI 168 (upd F (91 + 2 * nS D.1) (nI (if s4.2 = 0 then nA ts s3.1 else 0))))).2.2 155 = _ := (ax_wr_ne (by decide)).trans e155
    generalize ax_wr h2 151 (eI 168 (upd F (91 + 2 * nS D.1) (nI (if s4.2 = 0 then nA ts s3.1 else 0)))) = h3 at hb3 e145 e151 e154 e155 ⊢
    refine ax_aload_n dX12_readStuff_46 rfl ?_
    refine ax_getf dX12_readStuff_47 flX12_75 e145 rfl ?_
    refine ax_bipush dX12_readStuff_50 (v := nI 91) (by decide) ?_
    refine ax_iconst dX12_readStuff_52 (v := nI 2) (by decide) ?_
    refine ax_iload_n dX12_readStuff_53 rfl ?_
    refine ax_imul dX12_readStuff_54 ?_
    refine ax_iadd dX12_readStuff_55 ?_
    refine ax_iconst dX12_readStuff_56 (v := nI 1) (by decide) ?_
    refine ax_iadd dX12_readStuff_57 ?_
    rw [pk_mul 2 (nS D.1), nI_add 91 (2 * nS D.1), nI_add (91 + 2 * nS D.1) 1]
    refine ax_aload_n dX12_readStuff_58 rfl ?_
    refine ax_iconst dX12_readStuff_59 (v := nI 2) (by decide) ?_
    refine ax_iconst dX12_readStuff_60 (v := nI 0) (by decide) ?_
    refine ax_bipush dX12_readStuff_61 (v := nI 9) (by decide) ?_
    refine ax_cV dX12_readStuff_63 mmX12_takeAfter lkX12_223 miX12_takeAfter msX12_takeAfter (ax_recv_of e145 rfl) rfl rfl (Nat.le_of_ble_eq_true rfl) (Nat.le_of_ble_eq_true rfl) rfl rfl (k_takeAfter (w := 2) (a := 0) (b := 9) (d := d) (by omega) (by omega) (by omega) ht hE o4 hT e145 (hP.k4 hb3) (fun h4 hb4 e145 => ⟨_, rfl, ?_⟩))
    rw [show kwK 2 = 26 from rfl, hs5, hs6] at e145 ⊢
    have e151 := (hb4.2.2 151 (by decide)).trans e151
    have e154 := (hb4.2.2 154 (by decide)).trans e154
    have e155 := (hb4.2.2 155 (by decide)).trans e155
    have hb4 : But h h4 dmP := hb3.tr (hb4.wide (fun j z => Or.inl z))
    refine ax_iast dX12_readStuff_66 e151 (ax_ix_nI (j := 91 + 2 * nS D.1 + 1) (by omega) (by decide)) ?_
    refine ax_aload_n dX12_readStuff_67 rfl ?_
    refine ax_getf dX12_readStuff_68 flX12_75 ((ax_wr_ne (by decide)).trans (e145)) rfl ?_
    refine ax_bipush dX12_readStuff_71 (v := nI 84) (by decide) ?_
    refine ax_dup2 dX12_readStuff_73 rfl rfl ?_
    refine ax_iald dX12_readStuff_74 ax_wr_eq (ax_ix_nI (j := 84) (by omega) (by decide)) ?_
    rw [upd_ne (by omega), upd_ne (by omega), hF]
    refine ax_iconst dX12_readStuff_75 (v := nI 1) (by decide) ?_
    refine ax_iadd dX12_readStuff_76 ?_
    rw [nI_add (nS D.1) 1]
    refine ax_iast dX12_readStuff_77 ax_wr_eq (ax_ix_nI (j := 84) (by omega) (by decide)) ?_
    rw [ax_wr_wr]
    refine ax_return dX12_readStuff_78 rfl (hq _ _ f1 g1 n1 (hb4.wr (Or.inr (Or.inl rfl))) ((ax_wr_ne (by decide)).trans e145) ax_wr_eq ((ax_wr_ne (by decide)).trans e154) ((ax_wr_ne (by decide)).trans e155) (fun j z => by rw [upd_ne (by omega), upd_ne (by omega), upd_ne (by omega)]) (fun z => ?_))
    have z6 := sNum_0 (by omega) (by omega) (show (sNum ts 0 9 s5).2 = 0 from by rw [hs6]; exact z)
    have z5 := sSkip_0 (show (sSkip ts 26 s4).2 = 0 from by rw [hs5]; exact z6.1)
    have z4 := sNum_0 (by omega) (by omega) (show (sNum ts 0 9 s3).2 = 0 from by rw [hs4]; exact z5.1)
    have z3 := sSkip_0 (show (sSkip ts 25 s2).2 = 0 from by rw [hs3]; exact z4.1)
    obtain ⟨x1, x2, x3⟩ := hz z3.1
    obtain ⟨y1, y2, y3, y4⟩ := sName_0 (show (sName ts D.1 D.2.2.1 D.2.2.2 s1).2 = 0 from by rw [hs2]; exact z3.1)
    rw [if_pos z, if_pos z5.1]
    refine ⟨hM.1.stuff (by omega), ?_, ?_⟩
    · rw [x1, x2, x3]
      exact hM.2.1.stuff hT ⟨by omega, hB.2⟩ hM.2.2 o1.1 y2 y4 y3
    · rw [x1, x3]
      exact g_up (by omega) hM.2.2
end MDR
