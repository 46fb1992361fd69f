/-! ===== AM: rules for the old world: Token's constants, Token.ALL, the switch's table, the script ===== -/
section OW
variable {G : ax_G} {d : Nat} {M : ax_M} {pc : Nat} {lv : List (Option Value)} {st : List Value} {h : ax_H} {Q : ax_O → ax_H → Prop}
theorem ax_r_old {k : Nat} (hk : k < 34) : ax_r G k = ga G k := if_pos (by omega)
theorem ax_gets {idx k : Nat} {C n ds : String} (hd : decode M.2.1 pc = .ok (.getstatic idx, 3)) (hk : k < 34) (hw : ax_g (.fieldLink M.1.cls idx C n ds)) (hz : ∀ G, ax_old G → va_Z C n ds (.ref (ga G k)) (ax_A G) (gs G) (gs G).heap) (kk : X G d M (pc + 3) lv (.ref k :: st) h Q) : X G d M pc lv st h Q := by
  refine ax_go (st := st) (st' := .ref k :: st) (fun p e R s m args below meth c H locs cells slots Qf ls ok C' hL hR w => ?_) kk
  have hW := C'.2.2.2.2.1
  obtain ⟨cf, kf, fi, f, a, cell, h1, h2, h3, h4, h5, h6, h7, h8⟩ := (hz G ok.2.2.2).moved hW.alike
  have e1 : ax_v G (.ref k) = .ref (ga G k) := by show Value.ref (ax_r G k) = _; rw [ax_r_old hk]
  rw [List.map_cons, e1] at w
  exact W.gets C'.1 C'.2.1 C'.2.2.2.1 (ax_w ok hW hw args) h1 h2 h3 h4 (by rw [hR.2.2.1 a (Array.getElem?_eq_some_iff.mp h5).1]; exact h5) (fun e => by rw [e] at h6; cases h6) h7 rfl hd w
theorem ax_En (G : ax_G) (o : ax_old G) : va_En "LostRoads$Token" "LLostRoads$Token;" tk_nm tk_F (ga G) (ax_A G) (gs G) (gs G).heap := o.2.1
theorem ax_tkZ {k : Nat} {n : String} (hk : k < 31) (hn : tk_nm.getD k "" = n) : ∀ G, ax_old G → va_Z "LostRoads$Token" n "LLostRoads$Token;" (.ref (ga G k)) (ax_A G) (gs G) (gs G).heap := fun G o => by
  subst hn
  exact ((ax_En G o).1 k hk).1
theorem ax_alZ : ∀ G, ax_old G → va_Z "LostRoads$Token" "ALL" "[LLostRoads$Token;" (.ref (ga G 31)) (ax_A G) (gs G) (gs G).heap := fun G o => o.2.2.2.1
theorem ax_swZ : ∀ G, ax_old G → va_Z "LostRoads$1" "$SwitchMap$LostRoads$Token" "[I" (.ref (ga G 33)) (ax_A G) (gs G) (gs G).heap := fun G o => o.2.2.2.2.2.1
theorem ax_getO {idx k : Nat} {C n ds : String} {v : Value} (hd : decode M.2.1 pc = .ok (.getfield idx, 3)) (hk : k < 34) (hw : ax_g (.fieldLink M.1.cls idx C n ds)) (hz : ∀ G, ax_old G → va_OF C n ds v (ga G k) (ax_A G) (gs G) (gs G).heap) (hv : ∀ G, ax_v G v = v) (kk : X G d M (pc + 3) lv (v :: st) h Q) : X G d M pc lv (.ref k :: st) h Q := by
  refine ax_go (st := .ref k :: st) (st' := v :: st) (fun p e R s m args below meth c H locs cells slots Qf ls ok C' hL hR w => ?_) kk
  have hW := C'.2.2.2.2.1
  obtain ⟨cf, kf, fi, f, cell, h1, h2, h3, h4, h5, h6⟩ := (hz G ok.2.2.2).moved hW.alike
  rw [List.map_cons, hv] at w
  rw [List.map_cons, show ax_v G (.ref k) = .ref (ga G k) from by show Value.ref (ax_r G k) = _; rw [ax_r_old hk]]
  exact W.getf C'.1 C'.2.1 C'.2.2.2.1 (ax_w ok hW hw args) h1 h2 (by rw [hR.2.2.1 _ (Array.getElem?_eq_some_iff.mp h3).1]; exact h3) h4 h5 rfl rfl hd w
theorem ax_fnw {s : State} (ok : ax_ok G ax_old) (hW : (gs G).WarmedH s.vm) {a : String} {i : Nat} {b n ds hst : String} (hw : (.fieldLinkNest a i b n ds hst) ∈ lw_tbl) (args : Array Value) : (Cond.fieldLinkNest a i b n ds hst).before args s = true := by
  obtain ⟨a0, h0⟩ := ok.1
  exact va_Nw.use rfl (va_Nw.warmF hW (va_Nw.of rfl (h0 _ hw)))
theorem ax_getON {idx k : Nat} {C n ds hst : String} {v : Value} (hd : decode M.2.1 pc = .ok (.getfield idx, 3)) (hk : k < 34) (hw : (.fieldLinkNest M.1.cls idx C n ds hst) ∈ lw_tbl) (hz : ∀ G, ax_old G → va_OF C n ds v (ga G k) (ax_A G) (gs G) (gs G).heap) (hv : ∀ G, ax_v G v = v) (kk : X G d M (pc + 3) lv (v :: st) h Q) : X G d M pc lv (.ref k :: st) h Q := by
  refine ax_go (st := .ref k :: st) (st' := v :: st) (fun p e R s m args below meth c H locs cells slots Qf ls ok C' hL hR w => ?_) kk
  have hW := C'.2.2.2.2.1
  obtain ⟨cf, kf, fi, f, cell, h1, h2, h3, h4, h5, h6⟩ := (hz G ok.2.2.2).moved hW.alike
  rw [List.map_cons, hv] at w
  rw [List.map_cons, show ax_v G (.ref k) = .ref (ga G k) from by show Value.ref (ax_r G k) = _; rw [ax_r_old hk]]
  exact va_Wgetf C'.1 C'.2.1 C'.2.2.2.1 (ax_fnw ok hW hw args) h1 h2 (by rw [hR.2.2.1 _ (Array.getElem?_eq_some_iff.mp h3).1]; exact h3) h4 h5 rfl rfl hd w
theorem ax_tkF {k : Nat} {q : String × String × String × List Int32} (hk : k < 31) (hq : q ∈ tk_F) : ∀ G, ax_old G → va_OF q.1 q.2.1 q.2.2.1 (.int (q.2.2.2.getD k 0)) (ga G k) (ax_A G) (gs G) (gs G).heap := fun G o => ((ax_En G o).1 k hk).2.2 q hq
theorem ax_tkK {k : Nat} (hk : k < 31) : ∀ G, ax_old G → va_OF "LostRoads$Token" "key" "J" (.long (tk_key.getD k 0)) (ga G k) (ax_A G) (gs G) (gs G).heap := fun G o => o.2.2.1 k hk
theorem ax_recvT {k : Nat} (hk : k < 31) : ax_recv ax_old G h k "LostRoads$Token" := by
  intro s H ok hW hR
  obtain ⟨cell, h1, h2, h3, h4⟩ := (((ax_En G ok.2.2.2).moved hW.alike).1 k hk).2.1
  refine ⟨cell, ?_, h2, ?_⟩
  · rw [ax_r_old (by omega), hR.2.2.1 _ (Array.getElem?_eq_some_iff.mp h1).1]; exact h1
  · exact h3
/-- elements of the old rows -/
theorem ax_oldrow {H : Heap} {a n : Nat} {ty : FieldType} {f : Nat → Value} (hR : ax_R G h H) (hr : ax_row G a ty n f) : ∃ cell : Cell, H[a]? = some cell ∧ (gs G).isArrayOf cell ty ∧ cell.vm ≠ .unknown ∧ cell.slots.size = n ∧ ∀ j, j < n → cell.slots[j]? = some (f j) := by
  obtain ⟨cell, h1, h2⟩ := hr
  exact ⟨cell, by rw [hR.2.2.1 _ (Array.getElem?_eq_some_iff.mp h1).1]; exact h1, h2⟩
theorem ax_aldO {j : Nat} {i : Int32} (hd : decode M.2.1 pc = .ok (.aaload, 1)) (hi : ax_ix i 31 j) (kk : X G d M (pc + 1) lv (.ref j :: st) h Q) : X G d M pc lv (.int i :: .ref 31 :: st) h Q := by
  refine ax_go (st := .int i :: .ref 31 :: st) (st' := .ref j :: st) (fun p e R s m args below meth c H locs cells slots Qf ls ok C' hL hR w => ?_) kk
  have hW := C'.2.2.2.2.1
  obtain ⟨cell, h1, h2, h3, h4, h5⟩ := ax_oldrow hR ok.2.2.2.2.2.2.2.1
  have hj := hi.2.2
  rw [List.map_cons, show ax_v G (.ref j) = .ref (ga G j) from by show Value.ref (ax_r G j) = _; rw [ax_r_old (by omega)]] at w
  rw [List.map_cons, List.map_cons, show ax_v G (.ref 31) = .ref (ga G 31) from by show Value.ref (ax_r G 31) = _; rw [ax_r_old (by omega)]]
  exact W.aald (v := .ref (ga G j)) C'.1 C'.2.1 h1 (State.isArrayOf_alike hW.alike h2) rfl h3 (by rw [h4]; exact ax_ix_in hi) (by rw [hi.2.1]; exact h5 j hj) rfl rfl hd w
theorem ax_lenO (hd : decode M.2.1 pc = .ok (.arraylength, 1)) (kk : X G d M (pc + 1) lv (.int (nI 31) :: st) h Q) : X G d M pc lv (.ref 31 :: st) h Q := by
  refine ax_go (st := .ref 31 :: st) (st' := .int (nI 31) :: st) (fun p e R s m args below meth c H locs cells slots Qf ls ok C' hL hR w => ?_) kk
  obtain ⟨cell, h1, h2, h3, h4, h5⟩ := ax_oldrow hR ok.2.2.2.2.2.2.2.1
  rw [List.map_cons, show ax_v G (.ref 31) = .ref (ga G 31) from by show Value.ref (ax_r G 31) = _; rw [ax_r_old (by omega)]]
  exact W.alen (n := nI 31) C'.1 C'.2.1 h1 (State.isArrayOf_alike C'.2.2.2.2.1.alike h2) (by rw [h4]; rfl) rfl rfl hd w
theorem ax_swO {j : Nat} {i : Int32} (hd : decode M.2.1 pc = .ok (.iaload, 1)) (hi : ax_ix i 31 j) (kk : X G d M (pc + 1) lv (.int (tk_sw.getD j 0) :: st) h Q) : X G d M pc lv (.int i :: .ref 33 :: st) h Q := by
  refine ax_go (st := .int i :: .ref 33 :: st) (st' := .int (tk_sw.getD j 0) :: st) (fun p e R s m args below meth c H locs cells slots Qf ls ok C' hL hR w => ?_) kk
  obtain ⟨cell, h1, h2, h3, h4, h5⟩ := ax_oldrow hR ok.2.2.2.2.2.2.2.2.2.1
  rw [List.map_cons, List.map_cons, show ax_v G (.ref 33) = .ref (ga G 33) from by show Value.ref (ax_r G 33) = _; rw [ax_r_old (by omega)]]
  exact W.iald (v := .int (tk_sw.getD j 0)) C'.1 C'.2.1 h1 (State.isArrayOf_alike C'.2.2.2.2.1.alike h2) h3 (by rw [h4]; exact ax_ix_in hi) (by rw [hi.2.1]; exact h5 j hi.2.2) rfl rfl hd w
theorem ax_scO {j : Nat} {i : Int32} (hd : decode M.2.1 pc = .ok (.iaload, 1)) (hi : ax_ix i (gn G) j) (kk : X G d M (pc + 1) lv (.int (gx G j) :: st) h Q) : X G d M pc lv (.int i :: .ref 32 :: st) h Q := by
  refine ax_go (st := .int i :: .ref 32 :: st) (st' := .int (gx G j) :: st) (fun p e R s m args below meth c H locs cells slots Qf ls ok C' hL hR w => ?_) kk
  obtain ⟨cell, h1, h2, h3, h4, h5⟩ := ok.2.2.2.2.2.2.2.2.2.2
  rw [List.map_cons, List.map_cons, show ax_v G (.ref 32) = .ref (ga G 32) from by show Value.ref (ax_r G 32) = _; rw [ax_r_old (by omega)]]
  exact W.iald (v := .int (gx G j)) C'.1 C'.2.1 (by rw [hR.2.2.1 _ (Array.getElem?_eq_some_iff.mp h1).1]; exact h1) (State.isArrayOf_alike C'.2.2.2.2.1.alike h2) h3 (by rw [h4]; exact ax_ix_in hi) (by rw [hi.2.1]; exact h5 j hi.2.2) rfl rfl hd w
theorem ax_sclen (hd : decode M.2.1 pc = .ok (.arraylength, 1)) (kk : X G d M (pc + 1) lv (.int (nI (gn G)) :: st) h Q) : X G d M pc lv (.ref 32 :: st) h Q := by
  refine ax_go (st := .ref 32 :: st) (st' := .int (nI (gn G)) :: st) (fun p e R s m args below meth c H locs cells slots Qf ls ok C' hL hR w => ?_) kk
  obtain ⟨cell, h1, h2, h3, h4, h5⟩ := ok.2.2.2.2.2.2.2.2.2.2
  rw [List.map_cons, show ax_v G (.ref 32) = .ref (ga G 32) from by show Value.ref (ax_r G 32) = _; rw [ax_r_old (by omega)]]
  exact W.alen (n := nI (gn G)) C'.1 C'.2.1 (by rw [hR.2.2.1 _ (Array.getElem?_eq_some_iff.mp h1).1]; exact h1) (State.isArrayOf_alike C'.2.2.2.2.1.alike h2) (by rw [h4]; rfl) rfl rfl hd w
/-- two constants of Token are compared -/
theorem ax_tinj {i j : Nat} (ok : ax_ok G ax_old) (hi : i < 31) (hj : j < 31) (e : ax_r G i = ax_r G j) : i = j := by
  rw [ax_r_old (by omega), ax_r_old (by omega)] at e
  exact (ax_En G ok.2.2.2).2 i j hi hj e
theorem ax_acmpE {off : Int} {i j : Nat} (tgt : Nat) (hd : decode M.2.1 pc = .ok (.if_acmp .eq off, 3)) (ht : (pc : Int) + off = (tgt : Int)) (hi : i < 31) (hj : j < 31) (kt : i = j → X G d M tgt lv st h Q) (kf : ¬ i = j → X G d M (pc + 3) lv st h Q) : X G d M pc lv (.ref j :: .ref i :: st) h Q := by
  by_cases hc : i = j
  · exact ax_go (st := .ref j :: .ref i :: st) (st' := st) (fun p e R s m args below meth c H locs cells slots Qf ls ok C' hL hR w => lv_acmp_eq (rx := some (ax_r G i)) (ry := some (ax_r G j)) C'.1 C'.2.1 hd ht (fun _ => w) (fun z => absurd (by rw [hc]) z)) (kt hc)
  · exact ax_go (st := .ref j :: .ref i :: st) (st' := st) (fun p e R s m args below meth c H locs cells slots Qf ls ok C' hL hR w => lv_acmp_eq (rx := some (ax_r G i)) (ry := some (ax_r G j)) C'.1 C'.2.1 hd ht (fun z => absurd (ax_tinj ok hi hj (Option.some.inj z)) hc) (fun _ => w)) (kf hc)
theorem ax_acmpN {off : Int} {i j : Nat} (tgt : Nat) (hd : decode M.2.1 pc = .ok (.if_acmp .ne off, 3)) (ht : (pc : Int) + off = (tgt : Int)) (hi : i < 31) (hj : j < 31) (kt : ¬ i = j → X G d M tgt lv st h Q) (kf : i = j → X G d M (pc + 3) lv st h Q) : X G d M pc lv (.ref j :: .ref i :: st) h Q := by
  by_cases hc : i = j
  · exact ax_go (st := .ref j :: .ref i :: st) (st' := st) (fun p e R s m args below meth c H locs cells slots Qf ls ok C' hL hR w => lv_acmp_ne (rx := some (ax_r G i)) (ry := some (ax_r G j)) C'.1 C'.2.1 hd ht (fun z => absurd (by rw [hc]) z) (fun _ => w)) (kf hc)
  · exact ax_go (st := .ref j :: .ref i :: st) (st' := st) (fun p e R s m args below meth c H locs cells slots Qf ls ok C' hL hR w => lv_acmp_ne (rx := some (ax_r G i)) (ry := some (ax_r G j)) C'.1 C'.2.1 hd ht (fun _ => w) (fun z => absurd (ax_tinj ok hi hj (Option.some.inj z)) hc)) (kt hc)
/-- a constant of Token is laid into a row -/
theorem ax_aastT {r n j k : Nat} {f : Nat → Option Nat} {i : Int32} (hd : decode M.2.1 pc = .ok (.aastore, 1)) (he : h.2.2 r = some (eT n f)) (hi : ax_ix i n j) (hk : k < 31) (kk : X G d M (pc + 1) lv st (ax_wr h r (eT n (va_up f j (some k)))) Q) : X G d M pc lv (.ref k :: .int i :: .ref r :: st) h Q := by
  refine ax_goH (st := .ref k :: .int i :: .ref r :: st) (st' := st) (h1 := ax_wr h r (eT n (va_up f j (some k)))) rfl rfl (fun p e R s m args below meth c H locs cells slots Qf ls ok C hL hR hlc w => ?_) kk
  have hW := C.2.2.2.2.1
  obtain ⟨cellV, g1, g3, g2⟩ := ax_recvT (G := G) (h := h) hk s H ok hW hR
  obtain ⟨kA, comp, k1, k2, k3, -⟩ := (ok.2.2.1 (.object "LostRoads$Token") (by decide)).2.moved hW.alike
  have hcomp : comp = cellV.cls := Option.some.inj (k3.symm.trans g2)
  subst hcomp
  obtain ⟨kC, hkC, -⟩ := Vm.findClass_spec g2
  refine W.aast C.1 C.2.1 (ax_cell hR he) (fun q h => by cases h) (fun h => by cases h) k1 k2 rfl hkC ⟨hi.1, by show _ < (arrV _ _ _).slots.size; rw [arrV_size, hi.2.1]; exact hi.2.2⟩ g1 (fun q h => by rw [h] at g3; cases g3) hkC (va_asg _ _) rfl rfl hd fun H1 e1 z oq => ?_
  refine w H1 _ (hR.wr he ?_ z oq) (ax_locs hR he hlc)
  show H1[_]? = some (vp_cell _ _)
  rw [e1]
  show some ((arrV (gt G (.object "LostRoads$Token")) n (fun y => va_rf ((f y).map (ax_r G)))).setSlot i.toNatClampNeg (.ref (ax_r G k))) = some (arrV (gt G (.object "LostRoads$Token")) n (fun y => va_rf ((va_up f j (some k) y).map (ax_r G))))
  rw [arrV_store, hi.2.1]
  congr 2
  funext q
  by_cases hq : q = j
  · subst hq
    simp [updV, va_up, va_rf]
  · simp [updV, va_up, hq]
end OW
