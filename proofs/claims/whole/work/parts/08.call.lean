/-! ===== AM: calls ===== -/
section AMC
variable {old : ax_G → Prop} {G : ax_G} {d : Nat} {M : ax_M} {pc : Nat} {lv : List (Option Value)} {st : List Value} {h : ax_H} {Q : ax_O → ax_H → Prop}
theorem ax_in_len : ∀ (n : Nat) (As : List Value), (ax_in n As).length = n
  | 0, _ => rfl
  | n + 1, [] => by show (ax_in n []).length + 1 = _; rw [ax_in_len n []]
  | 1, _ :: _ => rfl
  | n + 2, v :: vs => by
    cases hc : ax_c2 (some v) with
    | true => simp [ax_in, hc, ax_in_len n vs]
    | false => simp [ax_in, hc, ax_in_len (n + 1) vs]
theorem ax_in_nil : ∀ (n j : Nat) (v : Value), (ax_in n [])[j]? = some (some v) → False
  | 0, j, v, hj => by cases hj
  | n + 1, 0, v, hj => by cases hj
  | n + 1, j + 1, v, hj => ax_in_nil n j v hj
theorem ax_c2_two {v : Value} (hc : ax_c2 (some v) = true) : v.category = 2 := by cases v <;> first | rfl | cases hc
theorem ax_in_mem (G : ax_G) : ∀ (n : Nat) (As : List Value) (i j : Nat) (v : Value), (ax_in n As)[j]? = some (some v) → (i + j, ax_v G v) ∈ lv_args i (As.map (ax_v G))
  | 0, _, i, j, v, hj => by cases hj
  | n + 1, [], i, j, v, hj => (ax_in_nil (n + 1) j v hj).elim
  | 1, w :: ws, i, 0, v, hj => by cases hj; exact List.mem_cons_self
  | 1, w :: ws, i, j + 1, v, hj => by cases hj
  | n + 2, w :: ws, i, j, v, hj => by
    cases hc : ax_c2 (some w) with
    | true =>
      have h2 := ax_c2_two hc
      simp only [ax_in, hc] at hj
      rcases j with _ | _ | j
      · cases hj; exact List.mem_cons_self
      · cases hj
      · have := ax_in_mem G n ws (i + 2) j v hj
        refine List.mem_cons_of_mem _ ?_
        rw [ax_cat, if_pos h2, show i + (j + 2) = i + 2 + j by omega]
        exact this
    | false =>
      have h2 := ax_c2_cat hc
      simp only [ax_in, hc] at hj
      rcases j with _ | j
      · cases hj; exact List.mem_cons_self
      · have := ax_in_mem G (n + 1) ws (i + 1) j v hj
        refine List.mem_cons_of_mem _ ?_
        rw [ax_cat, if_neg (by omega), show i + (j + 1) = i + 1 + j by omega]
        exact this
def ax_sz (As : List Value) : Nat := (As.map fun v => v.category).sum
theorem ax_sl_len (G : ax_G) : ∀ As : List Value, (lg_sl (As.map (ax_v G))).length = ax_sz As
  | [] => rfl
  | v :: vs => by
    have ih := ax_sl_len G vs
    show (lg_sl (ax_v G v :: vs.map (ax_v G))).length = v.category + ax_sz vs
    rw [show lg_sl (ax_v G v :: vs.map (ax_v G)) = (if (ax_v G v).category = 2 then [.val (ax_v G v), .second] else [.val (ax_v G v)]) ++ lg_sl (vs.map (ax_v G)) from rfl, List.length_append, ih, ax_cat]
    rcases lv_cat v with q | q
    · rw [q]; rfl
    · rw [q]; rfl
theorem ax_entry {n : Nat} {As : List Value} (hf : ax_sz As ≤ n) : ax_L G ((lg_sl (As.map (ax_v G)) ++ List.replicate (n - (lg_sl (As.map (ax_v G))).length) Slot.unset).toArray) (ax_in n As) := by
  have he := lv_entry (As.map (ax_v G)) (n := n) (by rw [ax_sl_len]; exact hf)
  refine ⟨by rw [ax_in_len]; exact he.1, he.2.1, fun j v hj => ?_⟩
  have := ax_in_mem G n As 0 j v hj
  rw [Nat.zero_add] at this
  exact he.2.2 _ this
/-- a method's own words -/
def ax_m (M : ax_M) (n : Nat) : Prop := ax_g (.code M.1 M.2.1 M.2.2.1 M.2.2.2) ∧ ax_g (.initialized M.1.cls) ∧ plainName M.1.cls = true ∧ (M.1.cls ≠ "java/lang/invoke/MethodHandle" ∧ M.1.cls ≠ "java/lang/invoke/VarHandle") ∧ (parseMethodDescriptor M.1.desc).map (fun d => d.parameters.length) = some n ∧ M.2.2.1 ≤ 45
def ax_Pc (G : ax_G) (h : ax_H) (As : List Value) : Array Value → State → Prop := fun a U => a = (As.map (ax_v G)).toArray ∧ (gs G).WarmedH U.vm ∧ ax_R G h U.heap
def ax_Qc (G : ax_G) (h1 : ax_H) (r : Option Value) : Array Value → State → Outcome → State → Prop := fun _ _ o t => o = .returned (r.map (ax_v G)) ∧ (gs G).WarmedH t.vm ∧ ax_R G h1 t.heap
abbrev ax_rm (d' : Nat) (h h1 : ax_H) : Room := { frames := d', cells := h1.1 - h.1, slots := h1.2.1 - h.2.1, locals := 64 * d' }
theorem ax_blind (As : List Value) : FrameBlind (ax_Pc G h As) := fun _ _ _ _ q => q
theorem ax_nwn {M' : ax_M} (hm : ax_g (.code M'.1 M'.2.1 M'.2.2.1 M'.2.2.2)) : ¬ ax_wn M'.1 := by
  have := List.all_eq_true.mp ax_nca _ hm.1
  have h1 : (!decide (ax_wn M'.1)) = true := this
  intro q
  rw [decide_eq_true q] at h1
  cases h1
theorem ax_met {M' : ax_M} {d' n : Nat} {As : List Value} {r : Option Value} {h1 : ax_H} (hm : ax_m M' n) (hf : ax_sz As ≤ M'.2.2.1) (ok : ax_ok G old)
    (k1 : ax_ok G old → ∀ (p : Program) (e : Env) (R : Room) (s : State) (m : MethodId) (args : Array Value) (below : List Frame) (meth : Method) (c : Code), ax_C G d' M' p R s m meth c →
      ∀ (n0 s0 : Nat), n0 ≤ h.1 → s0 ≤ h.2.1 → h1.1 - n0 ≤ R.cells → h1.2.1 - s0 ≤ R.slots → ∀ Qf : State → Prop, ax_End G M' p e R s m args below meth c n0 s0 (.inl r) h1 Qf →
      ∀ (H : Heap) (locs : List Loc) (ls : Array Slot), ax_R G h H → (∀ q ∈ locs, (gs G).heap.size ≤ q.base) → ax_L G ls (ax_in M'.2.2.1 As) →
      W p (gl G) e R s m args below meth c H locs (h.1 - n0) (h.2.1 - s0) Qf (F0 m 0 ls (([] : List Value).map (ax_v G)))) :
    Met (gl G) M'.1 [.code M'.1 M'.2.1 M'.2.2.1 M'.2.2.2] (ax_rm d' h h1) (ax_Pc G h As) (ax_Qc G h1 r) (h1.1 - h.1) (h1.2.1 - h.2.1) (fun q => (gs G).heap.size ≤ q) := by
  refine Met.ofW (cc := M'.2.1) (maxL := M'.2.2.1) (ret := M'.2.2.2) hm.2.2.1 rfl ?_
  intro p e s m args below meth c s₁ B hml hv
  obtain ⟨rfl, hW, hR⟩ := hv
  have hsz : (gs G).heap.size ≤ s.heap.size := by have := hR.2.1; have := hR.1; omega
  have htab : c.exceptionTable.toList = [] := by
    obtain ⟨meth9, c9, q1, q2, -, -, -, -, q7, -⟩ := Cond.code_spec B.named (ax_w ok hW hm.1 (As.map (ax_v G)).toArray)
    cases Option.some.inj (q1.symm.trans B.method)
    cases Option.some.inj (q2.symm.trans (Stand.of_body B).code)
    rw [Array.isEmpty_iff.mp q7]
  have hC : ax_C G d' M' p (ax_rm d' h h1) s m meth c := ⟨B.exec, B.bytes, hml, findClass_of_methodNamed B.named, hW, Nat.le_refl _, Nat.le_refl _, (name_of_methodNamed B.named B.method).1, B.notSynchronized, hsz, ⟨fun q => absurd q (ax_nwn hm.1), fun _ => htab⟩⟩
  rw [lg_entry_eq]
  have hE : ax_End G M' p e (ax_rm d' h h1) s m (As.map (ax_v G)).toArray below meth c h.1 h.2.1 (.inl r) h1 (MQ below (ax_Qc G h1 r) (As.map (ax_v G)).toArray s (h1.1 - h.1) (h1.2.1 - h.2.1) (fun q => (gs G).heap.size ≤ q)) := by
    intro H locs pc ls i hR1 hl hr hd
    have hq : ∀ t : State, t.heap = H → s.WarmedH t.vm → ax_Qc G h1 r (As.map (ax_v G)).toArray s (.returned (r.map (ax_v G))) t := fun t ht hw => ⟨rfl, State.WarmedH.trans hW hw, by rw [ht]; exact hR1⟩
    rcases hr with ⟨x, rfl, rfl, h2 | ⟨h2, hx⟩⟩ | ⟨x, rfl, rfl, h2⟩ | ⟨k, Cn, rfl, rfl, h2⟩ | ⟨rfl, rfl, h2⟩
    · exact W.iret (v := x) B.exec B.bytes (B.returns.trans h2) hq hl hd B.notSynchronized
    · exact W.zret (v := x) B.exec B.bytes (B.returns.trans h2) (by rcases hx with rfl | rfl <;> rfl) hq hl hd B.notSynchronized
    · exact W.lret (v := x) B.exec B.bytes (B.returns.trans h2) hq hl hd B.notSynchronized
    · exact W.aret (v := .ref (ax_r G k)) B.exec B.bytes (B.returns.trans h2) (Or.inl ⟨_, rfl⟩) (Or.inr ⟨_, rfl⟩) hq hl hd B.notSynchronized
    · exact W.vret B.exec B.bytes (B.returns.trans h2) hq hl hd B.notSynchronized
  have := k1 ok p e (ax_rm d' h h1) s m (As.map (ax_v G)).toArray below meth c hC h.1 h.2.1 (Nat.le_refl _) (Nat.le_refl _) (Nat.le_refl _) (Nat.le_refl _) _ hE s.heap [] _ hR (fun q hq => by cases hq) (ax_entry hf)
  rw [Nat.sub_self, Nat.sub_self] at this
  exact this
/-- a call, by any road: what it takes from the machine is va_Run -/
theorem ax_call {M' : ax_M} {d' n : Nat} {As rest : List Value} (hm : ax_m M' n) (hf : ax_sz As ≤ M'.2.2.1) (hdd : d = d' + 1) (Q1 : ax_O → ax_H → Prop)
    (hrun : ∀ (p : Program) (e : Env) (R : Room) (s : State) (m : MethodId) (args : Array Value) (below : List Frame) (meth : Method) (c : Code) (H : Heap) (locs : List Loc) (cells slots : Nat) (ls : Array Slot) (h1 : ax_H) (r : Option Value), ax_ok G old → ax_C G d M p R s m meth c → ax_L G ls lv → ax_R G h H → ls.size = M.2.2.1 →
      Met (gl G) M'.1 [.code M'.1 M'.2.1 M'.2.2.1 M'.2.2.2] (ax_rm d' h h1) (ax_Pc G h As) (ax_Qc G h1 r) (h1.1 - h.1) (h1.2.1 - h.2.1) (fun q => (gs G).heap.size ≤ q) → (cells + (h1.1 - h.1) ≤ R.cells ∧ slots + (h1.2.1 - h.2.1) ≤ R.slots) →
      va_Run p (gl G) e R s m args below meth c H locs cells slots (h1.1 - h.1) (h1.2.1 - h.2.1) (F0 m pc ls (st.map (ax_v G))) (rest.map (ax_v G)) (ax_Qc G h1 r (As.map (ax_v G)).toArray) (fun q => (gs G).heap.size ≤ q))
    (hlen : lv.length = M.2.2.1)
    (k : ax_X old G d' M' 0 (ax_in M'.2.2.1 As) [] h Q1) (kk : ∀ o h1, Q1 o h1 → ∃ r, o = .inl r ∧ ax_X old G d M (pc + 3) lv (r.toList ++ rest) h1 Q) : ax_X old G d M pc lv st h Q := by
  obtain ⟨o, h1, q1, a1, a2, k1⟩ := k
  obtain ⟨r, rfl, kx⟩ := kk o h1 q1
  obtain ⟨o', h', q', b1, b2, k2⟩ := kx
  refine ⟨o', h', q', by omega, by omega, fun ok p e R s m args below meth c C n0 s0 i1 i2 i3 i4 Qf hE H locs ls hR hl hL => ?_⟩
  have hM := ax_met hm hf ok k1
  have hr := hrun p e R s m args below meth c H locs (h.1 - n0) (h.2.1 - s0) ls h1 r ok C hL hR (hL.1.trans hlen) hM ⟨by omega, by omega⟩
  intro T hT X
  obtain ⟨v, st₀, t, T', L, e0, X', hL', e1, e2, ⟨hv, hW, hR1⟩, stp⟩ := hr T hT X
  cases hv
  have := k2 ok p e R s m args below meth c C n0 s0 (by omega) (by omega) i3 i4 Qf hE T'.heap (locs ++ L) ls (by rw [e1]; exact hR1) (fun q hq => by
    rcases List.mem_append.mp hq with z | z
    · exact hl q z
    · exact hL' q z) hL
  rw [show h1.1 - n0 = h.1 - n0 + (h1.1 - h.1) by omega, show h1.2.1 - s0 = h.2.1 - s0 + (h1.2.1 - h.2.1) by omega, List.map_append, show (r.toList.map (ax_v G)) = (r.map (ax_v G)).toList by cases r <;> rfl] at this
  obtain ⟨t2, c1, c2⟩ := this T' rfl X'
  exact ⟨t2, stp t2 c1, c2⟩
theorem ax_code (ok : ax_ok G old) {s : State} (hW : (gs G).WarmedH s.vm) {M' : ax_M} {n : Nat} (hm : ax_m M' n) : ∀ w ∈ [Cond.code M'.1 M'.2.1 M'.2.2.1 M'.2.2.2], ∀ (a' : Array Value) (U : State), s.WarmedH U.vm → w.before a' U = true := by
  intro w hw a' U hU
  rw [List.mem_singleton.mp hw]
  exact ax_w ok (State.WarmedH.trans hW hU) hm.1 a'
theorem ax_par {M' : ax_M} {n : Nat} (hm : ax_m M' n) : ∀ sig, parseMethodDescriptor M'.1.desc = some sig → n = sig.parameters.length := by
  intro sig hs
  have := hm.2.2.2.2.1
  rw [hs] at this
  exact (Option.some.inj this).symm
theorem ax_pre (ok : ax_ok G old) {s : State} (hW : (gs G).WarmedH s.vm) {H : Heap} (hR : ax_R G h H) (As : List Value) : ∀ U : State, U.heap = H → s.WarmedH U.vm → ax_Pc G h As (As.map (ax_v G)).toArray U := fun U hU hw => ⟨rfl, State.WarmedH.trans hW hw, by rw [hU]; exact hR⟩
/-- the receiver is an object of that class -/
def ax_recv (old : ax_G → Prop) (G : ax_G) (h : ax_H) (r : Nat) (Cn : String) : Prop := ∀ (s : State) (H : Heap), ax_ok G old → (gs G).WarmedH s.vm → ax_R G h H → ∃ cellB : Cell, H[ax_r G r]? = some cellB ∧ cellB.vm.isStatics = false ∧ s.vm.findClass Cn = some cellB.cls
theorem ax_recv_of {r ci : Nat} {q : vw_C} {fs : List Value} (he : h.2.2 r = some (.inr (ci, fs))) (hq : vwCl[ci]? = some q) : ax_recv old G h r q.1 := by
  intro s H ok hW hR
  obtain ⟨-, -, q', h1, cell, g1, g2, g3, -⟩ := hR.2.2.2 r _ he
  exact ⟨cell, g1, by rw [g3]; rfl, by rw [g2]; exact (ax_kn ok hW hq).2.1⟩
theorem ax_callV {M' : ax_M} {d' n idx r : Nat} {As rest : List Value} {Cn : String} (hd : decode M.2.1 pc = .ok (.invokevirtual idx, 3)) (hm : ax_m M' n) (w1 : ax_g (.methodLink M.1.cls idx M'.1)) (w2 : ax_g (.instanceMethod M'.1)) (w3 : ax_g (.selects Cn M'.1 M'.1)) (hrec : ax_recv old G h r Cn) (hn : As.length = n) (hst : st = As.reverse ++ .ref r :: rest) (hrw : ax_sz rest ≤ 8) (hf : ax_sz (.ref r :: As) ≤ M'.2.2.1) (hdd : d = d' + 1) (hlen : lv.length = M.2.2.1) (Q1 : ax_O → ax_H → Prop)
    (k : ax_X old G d' M' 0 (ax_in M'.2.2.1 (.ref r :: As)) [] h Q1) (kk : ∀ o h1, Q1 o h1 → ∃ v, o = .inl v ∧ ax_X old G d M (pc + 3) lv (v.toList ++ rest) h1 Q) : ax_X old G d M pc lv st h Q := by
  refine ax_call (As := .ref r :: As) (rest := rest) hm hf hdd Q1 (fun p e R s m args below meth c H locs cells slots ls h1 v ok C hL hR hls hM hroom => ?_) hlen k kk
  have hW := C.2.2.2.2.1
  refine va_runV (As := As.map (ax_v G)) (b := ax_r G r) (Ts := []) (C := Cn) (n := n) ⟨C.1, C.2.1, C.2.2.1, C.2.2.2.1, fun _ z => by cases z⟩ hM ⟨⟨rfl, rfl, ?_, ?_, ax_code ok hW hm, List.mem_singleton.mpr rfl, ax_w ok hW hm.1 args, ax_w ok hW hm.2.1 args, hm.2.2.2.1, ax_par hm, ax_w ok hW w1 args⟩, ax_w ok hW w2 args, ax_w ok hW w3 args⟩ ⟨ax_blind _, hrec s H ok hW hR, ax_pre ok hW hR (.ref r :: As)⟩ rfl (by rw [List.length_map]; exact hn) hls ?_ ?_ hd hroom
  · show d' + 1 ≤ R.frames
    have := C.2.2.2.2.2.1; omega
  · show 8 + (M'.2.2.1 + 11) + 64 * d' ≤ R.locals
    have := C.2.2.2.2.2.2.1; have := hm.2.2.2.2.2; omega
  · show st.map (ax_v G) = _
    rw [hst, List.map_append, List.map_reverse]; rfl
  · show 2 * 0 + _ ≤ 8
    rw [List.map_map, show ((fun v : Value => v.category) ∘ ax_v G) = (fun v => v.category) from funext (ax_cat G)]
    have : (rest.map fun v => v.category).sum ≤ 8 := hrw
    omega
theorem ax_callS {M' : ax_M} {d' n idx : Nat} {As rest : List Value} (hd : decode M.2.1 pc = .ok (.invokestatic idx, 3)) (hm : ax_m M' n) (w1 : ax_g (.methodLink M.1.cls idx M'.1)) (w2 : ax_g (.static M'.1)) (hn : As.length = n) (hst : st = As.reverse ++ rest) (hrw : ax_sz rest ≤ 8) (hf : ax_sz As ≤ M'.2.2.1) (hdd : d = d' + 1) (hlen : lv.length = M.2.2.1) (Q1 : ax_O → ax_H → Prop)
    (k : ax_X old G d' M' 0 (ax_in M'.2.2.1 As) [] h Q1) (kk : ∀ o h1, Q1 o h1 → ∃ v, o = .inl v ∧ ax_X old G d M (pc + 3) lv (v.toList ++ rest) h1 Q) : ax_X old G d M pc lv st h Q := by
  refine ax_call (As := As) (rest := rest) hm hf hdd Q1 (fun p e R s m args below meth c H locs cells slots ls h1 v ok C hL hR hls hM hroom => ?_) hlen k kk
  have hW := C.2.2.2.2.1
  refine va_runS (As := As.map (ax_v G)) (Ts := []) (n := n) ⟨C.1, C.2.1, C.2.2.1, C.2.2.2.1, fun _ z => by cases z⟩ hM ⟨⟨rfl, rfl, ?_, ?_, ax_code ok hW hm, List.mem_singleton.mpr rfl, ax_w ok hW hm.1 args, ax_w ok hW hm.2.1 args, hm.2.2.2.1, ax_par hm, ax_w ok hW w1 args⟩, ax_w ok hW w2 args⟩ ⟨ax_blind _, ax_pre ok hW hR As⟩ rfl (by rw [List.length_map]; exact hn) hls ?_ ?_ hd hroom
  · show d' + 1 ≤ R.frames
    have := C.2.2.2.2.2.1; omega
  · show 8 + (M'.2.2.1 + 11) + 64 * d' ≤ R.locals
    have := C.2.2.2.2.2.2.1; have := hm.2.2.2.2.2; omega
  · show st.map (ax_v G) = _
    rw [hst, List.map_append, List.map_reverse]
  · show 2 * 0 + _ ≤ 8
    rw [List.map_map, show ((fun v : Value => v.category) ∘ ax_v G) = (fun v => v.category) from funext (ax_cat G)]
    have : (rest.map fun v => v.category).sum ≤ 8 := hrw
    omega
theorem ax_nw (ok : ax_ok G old) {s : State} (hW : (gs G).WarmedH s.vm) {a : String} {i : Nat} {x : MethodName} {hst : String} (hw : (.methodLinkNest a i x hst) ∈ lw_tbl) (args : Array Value) : (Cond.methodLinkNest a i x hst).before args s = true := by
  obtain ⟨a0, h0⟩ := ok.1
  exact va_Nw.use rfl (va_Nw.warmM hW (va_Nw.of rfl (h0 _ hw)))
theorem ax_callSN {M' : ax_M} {d' n idx : Nat} {As rest : List Value} {host : String} (hd : decode M.2.1 pc = .ok (.invokestatic idx, 3)) (hm : ax_m M' n) (w1 : (.methodLinkNest M.1.cls idx M'.1 host) ∈ lw_tbl) (w2 : ax_g (.static M'.1)) (hn : As.length = n) (hst : st = As.reverse ++ rest) (hrw : ax_sz rest ≤ 8) (hf : ax_sz As ≤ M'.2.2.1) (hdd : d = d' + 1) (hlen : lv.length = M.2.2.1) (Q1 : ax_O → ax_H → Prop)
    (k : ax_X old G d' M' 0 (ax_in M'.2.2.1 As) [] h Q1) (kk : ∀ o h1, Q1 o h1 → ∃ v, o = .inl v ∧ ax_X old G d M (pc + 3) lv (v.toList ++ rest) h1 Q) : ax_X old G d M pc lv st h Q := by
  refine ax_call (As := As) (rest := rest) hm hf hdd Q1 (fun p e R s m args below meth c H locs cells slots ls h1 v ok C hL hR hls hM hroom => ?_) hlen k kk
  have hW := C.2.2.2.2.1
  refine va_runSN (As := As.map (ax_v G)) (Ts := []) (n := n) (host := host) ⟨C.1, C.2.1, C.2.2.1, C.2.2.2.1, fun _ z => by cases z⟩ hM ⟨⟨⟨rfl, rfl, ?_, ?_, ax_code ok hW hm, List.mem_singleton.mpr rfl⟩, ax_w ok hW hm.1 args, ax_w ok hW hm.2.1 args, hm.2.2.2.1, ax_par hm, ax_nw ok hW w1 args⟩, ax_w ok hW w2 args, trivial⟩ ⟨ax_blind _, ax_pre ok hW hR As⟩ rfl (by rw [List.length_map]; exact hn) hls ?_ ?_ hd hroom
  · show d' + 1 ≤ R.frames
    have := C.2.2.2.2.2.1; omega
  · show 8 + (M'.2.2.1 + 11) + 64 * d' ≤ R.locals
    have := C.2.2.2.2.2.2.1; have := hm.2.2.2.2.2; omega
  · show st.map (ax_v G) = _
    rw [hst, List.map_append, List.map_reverse]
  · show 2 * 0 + _ ≤ 8
    rw [List.map_map, show ((fun v : Value => v.category) ∘ ax_v G) = (fun v => v.category) from funext (ax_cat G)]
    have : (rest.map fun v => v.category).sum ≤ 8 := hrw
    omega
theorem ax_callI {M' : ax_M} {d' n idx r : Nat} {As rest : List Value} (hd : decode M.2.1 pc = .ok (.invokespecial idx, 3)) (hm : ax_m M' n) (w1 : ax_g (.methodLink M.1.cls idx M'.1)) (w2 : ax_g (.instanceMethod M'.1)) (hy : M'.1.name = "<init>") (hret : M'.2.2.2 = none) (hn : As.length = n) (hst : st = As.reverse ++ .ref r :: rest) (hrw : ax_sz rest ≤ 8) (hf : ax_sz (.ref r :: As) ≤ M'.2.2.1) (hdd : d = d' + 1) (hlen : lv.length = M.2.2.1) (Q1 : ax_O → ax_H → Prop)
    (k : ax_X old G d' M' 0 (ax_in M'.2.2.1 (.ref r :: As)) [] h Q1) (kk : ∀ o h1, Q1 o h1 → ∃ v, o = .inl v ∧ ax_X old G d M (pc + 3) lv (v.toList ++ rest) h1 Q) : ax_X old G d M pc lv st h Q := by
  refine ax_call (As := .ref r :: As) (rest := rest) hm hf hdd Q1 (fun p e R s m args below meth c H locs cells slots ls h1 v ok C hL hR hls hM hroom => ?_) hlen k kk
  have hW := C.2.2.2.2.1
  have hc0 := hm.1
  rw [hret] at hM hc0
  have hcode := ax_code ok hW hm
  rw [hret] at hcode
  refine va_runI (As := As.map (ax_v G)) (b := ax_r G r) (Ts := []) (n := n) ⟨C.1, C.2.1, C.2.2.1, C.2.2.2.1, fun _ z => by cases z⟩ hM ⟨⟨rfl, rfl, ?_, ?_, hcode, List.mem_singleton.mpr rfl, ax_w ok hW hc0 args, ax_w ok hW hm.2.1 args, hm.2.2.2.1, ax_par hm, ax_w ok hW w1 args⟩, hy, ax_w ok hW w2 args⟩ ⟨ax_blind _, ax_pre ok hW hR (.ref r :: As)⟩ rfl (by rw [List.length_map]; exact hn) hls ?_ ?_ hd hroom
  · show d' + 1 ≤ R.frames
    have := C.2.2.2.2.2.1; omega
  · show 8 + (M'.2.2.1 + 11) + 64 * d' ≤ R.locals
    have := C.2.2.2.2.2.2.1; have := hm.2.2.2.2.2; omega
  · show st.map (ax_v G) = _
    rw [hst, List.map_append, List.map_reverse]; rfl
  · show 2 * 0 + _ ≤ 8
    rw [List.map_map, show ((fun v : Value => v.category) ∘ ax_v G) = (fun v => v.category) from funext (ax_cat G)]
    have : (rest.map fun v => v.category).sum ≤ 8 := hrw
    omega
theorem ax_callIN {M' : ax_M} {d' n idx r : Nat} {As rest : List Value} {host : String} (hd : decode M.2.1 pc = .ok (.invokespecial idx, 3)) (hm : ax_m M' n) (w1 : (.methodLinkNest M.1.cls idx M'.1 host) ∈ lw_tbl) (w2 : ax_g (.instanceMethod M'.1)) (hy : M'.1.name = "<init>") (hret : M'.2.2.2 = none) (hn : As.length = n) (hst : st = As.reverse ++ .ref r :: rest) (hrw : ax_sz rest ≤ 8) (hf : ax_sz (.ref r :: As) ≤ M'.2.2.1) (hdd : d = d' + 1) (hlen : lv.length = M.2.2.1) (Q1 : ax_O → ax_H → Prop)
    (k : ax_X old G d' M' 0 (ax_in M'.2.2.1 (.ref r :: As)) [] h Q1) (kk : ∀ o h1, Q1 o h1 → ∃ v, o = .inl v ∧ ax_X old G d M (pc + 3) lv (v.toList ++ rest) h1 Q) : ax_X old G d M pc lv st h Q := by
  refine ax_call (As := .ref r :: As) (rest := rest) hm hf hdd Q1 (fun p e R s m args below meth c H locs cells slots ls h1 v ok C hL hR hls hM hroom => ?_) hlen k kk
  have hW := C.2.2.2.2.1
  have hc0 := hm.1
  rw [hret] at hM hc0
  have hcode := ax_code ok hW hm
  rw [hret] at hcode
  refine va_runIN (As := As.map (ax_v G)) (b := ax_r G r) (Ts := []) (n := n) (host := host) ⟨C.1, C.2.1, C.2.2.1, C.2.2.2.1, fun _ z => by cases z⟩ hM ⟨⟨⟨rfl, rfl, ?_, ?_, hcode, List.mem_singleton.mpr rfl⟩, ax_w ok hW hc0 args, ax_w ok hW hm.2.1 args, hm.2.2.2.1, ax_par hm, ax_nw ok hW w1 args⟩, hy, ax_w ok hW w2 args⟩ ⟨ax_blind _, ax_pre ok hW hR (.ref r :: As)⟩ rfl (by rw [List.length_map]; exact hn) hls ?_ ?_ hd hroom
  · show d' + 1 ≤ R.frames
    have := C.2.2.2.2.2.1; omega
  · show 8 + (M'.2.2.1 + 11) + 64 * d' ≤ R.locals
    have := C.2.2.2.2.2.2.1; have := hm.2.2.2.2.2; omega
  · show st.map (ax_v G) = _
    rw [hst, List.map_append, List.map_reverse]; rfl
  · show 2 * 0 + _ ≤ 8
    rw [List.map_map, show ((fun v : Value => v.category) ∘ ax_v G) = (fun v => v.category) from funext (ax_cat G)]
    have : (rest.map fun v => v.category).sum ≤ 8 := hrw
    omega
/-- Object's own constructor -/
theorem ax_objI {idx r : Nat} (hd : decode M.2.1 pc = .ok (.invokespecial idx, 3)) (w1 : ax_g (.methodLink M.1.cls idx Lib.objectInit)) (w2 : ax_g (.instanceMethod Lib.objectInit)) (w3 : ax_g (.code Lib.objectInit ⟨#[0xb1]⟩ 1 none)) (hlen : lv.length = M.2.2.1) (hst : ax_sz st ≤ 8) (hd1 : 1 ≤ d) (kk : ax_X old G d M (pc + 3) lv st h Q) : ax_X old G d M pc lv (.ref r :: st) h Q := by
  refine ax_go (st := .ref r :: st) (st' := st) (fun p e R s m args below meth c H locs cells slots Qf ls ok C hL hR w => ?_) kk
  have hW := C.2.2.2.2.1
  refine W.objInit C.1 C.2.1 C.2.2.2.1 (ax_w ok hW w1 args) (ax_w ok hW w2 args) (ax_w ok hW w3 args) rfl (by rw [C.2.2.1]; exact hL.1.trans hlen) rfl hd ?_ ?_ w
  · have := C.2.2.2.2.2.1; omega
  · show 2 * 0 + _ + 12 ≤ R.locals
    rw [List.map_map, show ((fun v : Value => v.category) ∘ ax_v G) = (fun v => v.category) from funext (ax_cat G)]
    have : (st.map fun v => v.category).sum ≤ 8 := hst
    have := C.2.2.2.2.2.2.1
    omega
end AMC
