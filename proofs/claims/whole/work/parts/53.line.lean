/-! ===== ordinal (an inherited method), readLaw, readLine ===== -/
def yTord : MethodName := ⟨"LostRoads$Token", "ordinal", "()I"⟩
theorem or_lk : ax_g (.methodLink RX2 58 yTord) := ⟨List.mem_of_getElem? (i := 590) (by decide +kernel), by decide +kernel⟩
theorem or_sm : ax_g (.sameMethod "LostRoads$Token" "java/lang/Enum" "ordinal" "()I") := ⟨List.mem_of_getElem? (i := 591) (by decide +kernel), by decide +kernel⟩
theorem or_se : ax_g (.selects "LostRoads$Token" yTord yJx29ce0_ordinal_8abf5) := ⟨List.mem_of_getElem? (i := 593) (by decide +kernel), by decide +kernel⟩
section LI
variable {G : ax_G} {d : Nat} {M : ax_M} {pc : Nat} {lv : List (Option Value)} {st : List Value} {h : ax_H} {Q : ax_O → ax_H → Prop}
theorem c_ordinal {k : Nat} (hk : k < 31) (hq : Q (.inl (some (.int (tk_ord.getD k 0)))) h) : X G d mJx29ce0_ordinal_8abf5 0 (ax_in 1 [.ref k]) [] h Q := by
  refine ax_aload_n dJx29ce0_ordinal_8abf5_0 rfl ?_
  refine ax_getO dJx29ce0_ordinal_8abf5_1 (by omega) slJx29ce0_7 (ax_tkF (q := ("java/lang/Enum", "ordinal", "I", tk_ord)) (by omega) (by decide)) (fun _ => rfl) ?_
  exact ax_ireturn dJx29ce0_ordinal_8abf5_4 rfl hq
theorem ax_cOrd {d' r : Nat} {rest : List Value} (hd : decode M.2.1 pc = .ok (.invokevirtual 58, 3)) (hM : M.1.cls = RX2) (hr : r < 31) (hst : st = .ref r :: rest) (hrw : ax_sz rest ≤ 8) (hdd : d = d' + 1) (hlen : lv.length = M.2.2.1)
    (kk : X G d M (pc + 3) lv (.int (tk_ord.getD r 0) :: rest) h Q) : X G d M pc lv st h Q := by
  refine ax_call (As := [.ref r]) (rest := rest) mmJx29ce0_ordinal_8abf5 (Nat.le_of_ble_eq_true rfl) hdd (fun o h1 => o = .inl (some (.int (tk_ord.getD r 0))) ∧ h1 = h) (fun p e R s m args below meth c H locs cells slots ls h1 v ok C hL hR hls hMt hroom => ?_) hlen (c_ordinal hr ⟨rfl, rfl⟩) (fun o h1 q => ⟨_, q.1, by rw [q.2]; exact kk⟩)
  have hW := C.2.2.2.2.1
  have w1 : (Cond.methodLink M.1.cls 58 yTord).before args s = true := by rw [hM]; exact ax_w ok hW or_lk args
  refine va_runU (x := yTord) (As := []) (b := ax_r G r) (Ts := []) (C := "LostRoads$Token") (owner := "java/lang/Enum") (n := 0) ⟨C.1, C.2.1, C.2.2.1, C.2.2.2.1, fun _ z => by cases z⟩ hMt ⟨⟨rfl, rfl, ?_, ?_, ax_code ok hW mmJx29ce0_ordinal_8abf5, List.mem_singleton.mpr rfl⟩, ax_w ok hW mmJx29ce0_ordinal_8abf5.1 args, ax_w ok hW mmJx29ce0_ordinal_8abf5.2.1 args, ⟨by decide, by decide⟩, ax_par mmJx29ce0_ordinal_8abf5, w1, ax_w ok hW or_sm args, va_Decl.of (ax_w ok hW miJx29ce0_ordinal_8abf5 args) (ax_w ok hW mmJx29ce0_ordinal_8abf5.1 args), ax_w ok hW or_se args, ax_w ok hW miJx29ce0_ordinal_8abf5 args⟩ ⟨ax_blind _, ax_recvT hr s H ok hW hR, ax_pre ok hW hR [.ref r]⟩ rfl rfl hls ?_ ?_ hd hroom
  · show d' + 1 ≤ R.frames
    have := C.2.2.2.2.2.1; omega
  · show 8 + (1 + 11) + 64 * d' ≤ R.locals
    have := C.2.2.2.2.2.2.1; omega
  · show st.map (ax_v G) = _
    rw [hst]; rfl
  · show 2 * 0 + _ ≤ 8
    rw [List.map_map, show ((fun v : Value => v.category) ∘ ax_v G) = (fun v => v.category) from funext (ax_cat G)]
    have : (rest.map fun v => v.category).sum ≤ 8 := hrw
    omega
end LI
section LI2
variable {G : ax_G} {d : Nat} {h : ax_H} {Q : ax_O → ax_H → Prop}
variable {ts : List CT} {l : Nat} {s : Nat × Nat} {cs : List Nat} {lb le : Nat → Nat} {hl : Int32} {D : DD}
/-- the laws' part of the draft -/
abbrev LD : Type := List Nat × (Nat → Nat) × (Nat → Nat) × Int32
/-- a law is read -/
def mLaw (ts : List CT) (w : Nat) (L : LD) (s : Nat × Nat) : (Nat × Nat) × LD :=
  let s1 := sOpen ts (!decide (L.2.1 w < L.2.2.1 w)) 3 s
  let e := joinAll ts (mPart ts w 5) (s1, L.1, L.2.2.2)
  (sSkip ts 6 e.1, e.2.1, upN L.2.1 w L.1.length, upN L.2.2.1 w e.2.1.length, e.2.2)
theorem Rd.law {l' : Nat} (a : Rd h ts l s) : Rd (ax_wr h 88 (eRd (kA ts s.1) (nI s.1) (nI l') (nI s.2))) ts l' s := ⟨ax_wr_eq, a.2.kept (fun j z1 z2 => ax_wr_ne (by omega))⟩
theorem c_readLaw {w : Nat} {L : LD} (hw : w < 3) (ht : tsOK ts) (hN : tsN ts) (hs : sOKs ts s) (hD : DrD h D L.1 L.2.1 L.2.2.1 L.2.2.2) (hB : DrB D.1 L.1 L.2.1 L.2.2.1) (hR : Rd h ts l s) (hq : ∀ h', But h h' rdP → Rd h' ts w (mLaw ts w L s).1 → DrD h' D (mLaw ts w L s).2.1 (mLaw ts w L s).2.2.1 (mLaw ts w L s).2.2.2.1 (mLaw ts w L s).2.2.2.2 → Q (.inl none) h') : X G (d + 38) mX2_readLaw 0 (ax_in 2 [.ref 88, .int (nI w)]) [] h Q := by
  have e71 := hD.1
  have e88 := hR.1
  have hL1 := hB.2.2.2.2.1
  unfold mLaw at hq
  dsimp only at hq
  have o1 : sOKs ts (sOpen ts (!decide (L.2.1 w < L.2.2.1 w)) 3 s) := sOpen_ok (by omega) ht hs
  generalize hs1 : sOpen ts (!decide (L.2.1 w < L.2.2.1 w)) 3 s = s1 at hq o1
  have body : X G (d + 38) mX2_readLaw 17 [some (.ref 88), some (.int (nI w))] [.int (bI (!decide (L.2.1 w < L.2.2.1 w))), .ref 88] h Q := by
    refine ax_iconst dX2_readLaw_17 (v := nI 3) (by decide) ?_
    refine ax_cV dX2_readLaw_18 mmX2_open lkX2_84 miX2_open msX2_open (ax_recv_of e88 rfl) rfl rfl (Nat.le_of_ble_eq_true rfl) (Nat.le_of_ble_eq_true rfl) rfl rfl (c_ropen (d := d + 36) (k := 3) (by omega) ht hs hR (fun h1 hb1 hR1 => ⟨_, rfl, ?_⟩))
    rw [hs1] at hR1
    have hD1 := hD.rd hb1
    have e88 := hR1.1
    have e71 := hD1.1
    obtain ⟨f8, e86, q8⟩ := hD1.2.2.2.2.2.2.2.2.2.2.2.1
    refine ax_aload_n dX2_readLaw_21 rfl ?_
    refine ax_iload_n dX2_readLaw_22 rfl ?_
    refine ax_putf dX2_readLaw_23 flX2_162 e88 (Nat.le_of_ble_eq_true rfl) (fun _ => ⟨rfl, rfl⟩) ?_
    refine ax_aload_n dX2_readLaw_26 rfl ?_
    refine ax_getf dX2_readLaw_27 flX2_24 ax_wr_eq rfl ?_
    refine ax_getf dX2_readLaw_30 flX2_165 ((ax_wr_ne (by decide)).trans (e71)) rfl ?_
    refine ax_iload_n dX2_readLaw_33 rfl ?_
    refine ax_aload_n dX2_readLaw_34 rfl ?_
    refine ax_getf dX2_readLaw_35 flX2_24 ax_wr_eq rfl ?_
    refine ax_getf dX2_readLaw_38 flX2_168 ((ax_wr_ne (by decide)).trans (e71)) rfl ?_
    refine ax_iast dX2_readLaw_41 ((ax_wr_ne (by decide)).trans (e86)) (ax_ix_nI hw (by decide)) ?_
    have hR2 : Rd (ax_wr (ax_wr h1 88 (eRd (kA ts s1.1) (nI s1.1) (nI w) (nI s1.2))) 86 (eI 3 (upd f8 w (nI L.1.length)))) ts w s1 := (hR1.law (l' := w)).kept (fun j z1 z2 => ax_wr_ne (by omega))
    have kp : ∀ j, j ≠ 86 → j ≠ 88 → (ax_wr (ax_wr h1 88 (eRd (kA ts s1.1) (nI s1.1) (nI w) (nI s1.2))) 86 (eI 3 (upd f8 w (nI L.1.length)))).2.2 j = h1.2.2 j := fun j z1 z2 => (ax_wr_ne z1).trans (ax_wr_ne z2)
    have hD2 : DrD (ax_wr (ax_wr h1 88 (eRd (kA ts s1.1) (nI s1.1) (nI w) (nI s1.2))) 86 (eI 3 (upd f8 w (nI L.1.length)))) D L.1 (upN L.2.1 w L.1.length) L.2.2.1 L.2.2.2 := by
      obtain ⟨g0, ⟨f1, e1, q1⟩, ⟨f2, e2, q2⟩, a1, a2, a3, a4, a5, a6, a7, ⟨C, e3, q3⟩, a8, a9, a10⟩ := id hD1
      exact ⟨(kp _ (by decide) (by decide)).trans g0, ⟨f1, (kp _ (by decide) (by decide)).trans e1, q1⟩, ⟨f2, (kp _ (by decide) (by decide)).trans e2, q2⟩, a1.kept (kp _ (by decide) (by decide)), a2.kept (kp _ (by decide) (by decide)), a3.kept (kp _ (by decide) (by decide)), a4.kept (kp _ (by decide) (by decide)), a5.kept (kp _ (by decide) (by decide)), a6.kept (kp _ (by decide) (by decide)), a7.kept (fun j z1 z2 => kp j (by omega) (by omega)), ⟨C, (kp _ (by decide) (by decide)).trans e3, q3⟩, ⟨_, ax_wr_eq, isA_up q8⟩, a9.kept (kp _ (by decide) (by decide)), a10⟩
    have hb2 : But h (ax_wr (ax_wr h1 88 (eRd (kA ts s1.1) (nI s1.1) (nI w) (nI s1.2))) 86 (eI 3 (upd f8 w (nI L.1.length)))) rdP := (((hb1.wide (fun j z => Or.inr z)).wr (Or.inr rfl))).wr (Or.inl (by omega))
    refine ax_hp (h1 := ax_wr (ax_wr h1 88 (eRd (kA ts s1.1) (nI s1.1) (nI w) (nI s1.2))) 86 (eI 3 (upd f8 w (nI L.1.length)))) rfl ?_
    generalize ax_wr (ax_wr h1 88 (eRd (kA ts s1.1) (nI s1.1) (nI w) (nI s1.2))) 86 (eI 3 (upd f8 w (nI L.1.length))) = h2 at hR2 hD2 hb2 ⊢
    have e88 := hR2.1
    have jh := c_joinAll ht (mPart_ok (l := w) ht 5) (c_part (G := G) (D := D) (lb := upN L.2.1 w L.1.length) (le := L.2.2.1) hw ht hN 5 d (by omega))
    have oe : eOK ts (s1, L.1, L.2.2.2) := ⟨o1, hL1⟩
    have oj := joinAll_ok (mPart_ok (l := w) ht 5) (s1, L.1, L.2.2.2) oe
    refine ax_aload_n dX2_readLaw_42 rfl ?_
    refine ax_iconst dX2_readLaw_43 (v := nI 0) (by decide) ?_
    refine ax_iconst dX2_readLaw_44 (v := nI 0) (by decide) ?_
    refine ax_cV dX2_readLaw_45 mmX2_readJoined lkX2_171 miX2_readJoined msX2_readJoined (ax_recv_of e88 rfl) rfl rfl (Nat.le_of_ble_eq_true rfl) (Nat.le_of_ble_eq_true rfl) rfl rfl (jh (s1, L.1, L.2.2.2) h2 _ oe hR2 hD2 (fun h3 hb3 hR3 hD3 => ⟨_, rfl, ?_⟩))
    have e88 := hR3.1
    refine ax_aload_n dX2_readLaw_48 rfl ?_
    refine ax_gets (k := 6) dX2_readLaw_49 (by decide) slX2_106 (ax_tkZ (by decide) rfl) ?_
    refine ax_cV dX2_readLaw_52 mmX2_skip lkX2_95 miX2_skip msX2_skip (ax_recv_of e88 rfl) rfl rfl (Nat.le_of_ble_eq_true rfl) (Nat.le_of_ble_eq_true rfl) rfl rfl (c_rskip (d := d + 36) (by omega) ht oj.1 hR3 (fun h4 hb4 hR4 => ⟨_, rfl, ?_⟩))
    have hD4 := hD3.rd hb4
    have e88 := hR4.1
    have e71 := hD4.1
    obtain ⟨f9, e87, q9⟩ := hD4.2.2.2.2.2.2.2.2.2.2.2.2.1
    refine ax_aload_n dX2_readLaw_55 rfl ?_
    refine ax_getf dX2_readLaw_56 flX2_24 e88 rfl ?_
    refine ax_getf dX2_readLaw_59 flX2_175 e71 rfl ?_
    refine ax_iload_n dX2_readLaw_62 rfl ?_
    refine ax_aload_n dX2_readLaw_63 rfl ?_
    refine ax_getf dX2_readLaw_64 flX2_24 e88 rfl ?_
    refine ax_getf dX2_readLaw_67 flX2_168 e71 rfl ?_
    refine ax_iast dX2_readLaw_70 e87 (ax_ix_nI hw (by decide)) ?_
    have kp2 : ∀ j, j ≠ 87 → (ax_wr h4 87 (eI 3 (upd f9 w (nI (joinAll ts (mPart ts w 5) (s1, L.1, L.2.2.2)).2.1.length)))).2.2 j = h4.2.2 j := fun j z => ax_wr_ne z
    refine ax_return dX2_readLaw_71 rfl (hq _ (((hb2.tr hb3).tr (hb4.wide (fun j z => Or.inr z))).wr (Or.inl (by omega))) (hR4.kept (fun j z1 z2 => kp2 j (by omega))) ?_)
    obtain ⟨g0, ⟨f1, e1, q1⟩, ⟨f2, e2, q2⟩, a1, a2, a3, a4, a5, a6, a7, ⟨C, e3, q3⟩, a8, a9, a10⟩ := id hD4
    exact ⟨(kp2 _ (by decide)).trans g0, ⟨f1, (kp2 _ (by decide)).trans e1, q1⟩, ⟨f2, (kp2 _ (by decide)).trans e2, q2⟩, a1.kept (kp2 _ (by decide)), a2.kept (kp2 _ (by decide)), a3.kept (kp2 _ (by decide)), a4.kept (kp2 _ (by decide)), a5.kept (kp2 _ (by decide)), a6.kept (kp2 _ (by decide)), a7.kept (fun j z1 z2 => kp2 j (by omega)), ⟨C, (kp2 _ (by decide)).trans e3, q3⟩, a8.kept (kp2 _ (by decide)), ⟨_, ax_wr_eq, isA_up q9⟩, a10⟩
  refine ax_aload_n dX2_readLaw_0 rfl ?_
  refine ax_aload_n dX2_readLaw_1 rfl ?_
  refine ax_getf dX2_readLaw_2 flX2_24 e88 rfl ?_
  refine ax_iload_n dX2_readLaw_5 rfl ?_
  refine ax_cV dX2_readLaw_6 mmX1_hasLaw lkX2_158 miX1_hasLaw msX1_hasLaw (ax_recv_of e71 rfl) rfl rfl (Nat.le_of_ble_eq_true rfl) (Nat.le_of_ble_eq_true rfl) rfl rfl (c_hasLaw (d := d + 37) hw hD hB ⟨_, rfl, ?_⟩)
  by_cases hz : L.2.1 w < L.2.2.1 w
  · rw [show bI (!decide (L.2.1 w < L.2.2.1 w)) = nI 0 from by rw [decide_eq_true hz]; rfl] at body
    rw [b1_t hz]
    refine ax_if_neT 16 dX2_readLaw_9 (by decide) (by decide) ?_
    refine ax_iconst dX2_readLaw_16 (v := nI 0) (by decide) ?_
    exact body
  · rw [show bI (!decide (L.2.1 w < L.2.2.1 w)) = nI 1 from by rw [decide_eq_false hz]; rfl] at body
    rw [b1_f hz]
    refine ax_if_neF 16 dX2_readLaw_9 (by decide) rfl ?_
    refine ax_iconst dX2_readLaw_12 (v := nI 1) (by decide) ?_
    refine ax_goto 17 dX2_readLaw_13 (by decide) ?_
    exact body
end LI2
