/-! ===== AM: throws, and the law's three wrappers that catch them ===== -/
section TH
variable {G : ax_G} {d : Nat} {M : ax_M} {pc : Nat} {lv : List (Option Value)} {st : List Value} {h : ax_H} {Q : ax_O → ax_H → Prop}
def th_tx : List (Nat × String) := [(196, "no such trade"), (201, "the trade is stranded"), (252, "no such newcomer"), (270, "no such road, or no such years")]
/-- what a throw asks of the launch and of the old world -/
def Thr (G : ax_G) : Prop := (gl G).stackTraces = false ∧ vx_Zq Bundle.tN "UNASSIGNED_STACK" Bundle.steD (ax_A G) (gs G) (gs G).heap ∧ vx_Zq Bundle.tN "SUPPRESSED_SENTINEL" Bundle.listD (ax_A G) (gs G) (gs G).heap ∧ ∀ q ∈ th_tx, ∃ sa, vk_R "LostRoads" q.1 q.2 sa (gs G)
def th_ws : List Cond := Cond.classLink "LostRoads" 194 th_N :: Cond.initialized th_N :: th_atS "LostRoads" 198 th_N th_ns
def th_kd : Cond → Bool
  | .declares _ => true
  | .castable _ _ => true
  | w => goodWord w
theorem th_w1 : th_ws.all (fun w => decide (w ∈ lw_tbl)) = true := by decide +kernel
theorem th_w2 : th_ws.all th_kd = true := by decide +kernel
theorem th_w3 : th_ws.all vx_ot = true := by decide +kernel
theorem th_cast {s : State} (ok : ax_ok G ax_old) (hW : (gs G).WarmedH s.vm) {a b : String} (h2 : Cond.castable a b ∈ lw_tbl) (args : Array Value) : (Cond.castable a b).before args s = true := by
  obtain ⟨a0, h0⟩ := ok.1
  exact va_Nw.use rfl (va_Nw.warmC hW (va_Nw.of rfl (h0 _ h2)))
theorem th_decl {s : State} (ok : ax_ok G ax_old) (hW : (gs G).WarmedH s.vm) {y : MethodName} (h2 : Cond.declares y ∈ lw_tbl) (args : Array Value) : (Cond.declares y).before args s = true := by
  obtain ⟨a0, h0⟩ := ok.1
  exact va_Nw.use rfl (va_Nw.warmD hW (va_Nw.of rfl (h0 _ h2)))
theorem th_use {s : State} (ok : ax_ok G ax_old) (hW : (gs G).WarmedH s.vm) (args : Array Value) {w : Cond} (hw : w ∈ th_ws) : w.before args s = true := by
  have h1 : th_kd w = true := List.all_eq_true.mp th_w2 w hw
  have h2 : w ∈ lw_tbl := of_decide_eq_true (List.all_eq_true.mp th_w1 w hw)
  clear hw
  revert h1 h2
  cases w <;> intro h1 h2 <;> first | exact th_cast ok hW h2 args | exact th_decl ok hW h2 args | exact ax_w ok hW ⟨h2, h1⟩ args
theorem th_ot : ∀ w ∈ th_ws, vx_ot w = true := fun w hw => List.all_eq_true.mp th_w3 w hw
theorem ax_R.grow {H H1 : Heap} (hR : ax_R G h H) (z : H1.size = H.size + 1) (oq : ∀ q : Nat, q < H.size → H1[q]? = H[q]?) : ax_R G (h.1 + 1, h.2.1 + 6, h.2.2) H1 := by
  obtain ⟨g1, g2, g3, g4⟩ := hR
  refine ⟨by show 64 ≤ h.1 + 1; omega, by show H1.size + 64 = _ + (h.1 + 1); omega, fun q hq => ?_, fun j e' hj => ?_⟩
  · rw [oq q (by omega)]
    exact g3 q hq
  · obtain ⟨j1, j2, j3⟩ := g4 j e' hj
    exact ⟨j1, by show j < h.1 + 1; omega, j3.kept (oq _ j3.lt)⟩
theorem th_zq {s : State} {H : Heap} {C n ds : String} (hW : (gs G).WarmedH s.vm) (hR : ax_R G h H) (a : vx_Zq C n ds (ax_A G) (gs G) (gs G).heap) : vx_Zq C n ds (ax_A G) s H :=
  vx_Zq.moved hW.alike (a.kept (fun q hq _ => hR.2.2.1 q hq))
/-- what the end of a throw is -/
theorem th_end {p : Program} {e : Env} {R : Room} {s : State} {m : MethodId} {args : Array Value} {below : List Frame} {meth : Method} {c : Code} {n0 s0 : Nat} {Qf : State → Prop} {H : Heap} {locs : List Loc} (hR : ax_R G h H) (hl : ∀ q ∈ locs, (gs G).heap.size ≤ q.base)
    (hE : ax_End G M p e R s m args below meth c n0 s0 (.inr h.1) (h.1 + 1, h.2.1 + 6, h.2.2) Qf) : ∀ (U : State) (ce : Cell), U.status = .running → Ended U below (.threw H.size) → s.WarmedH U.vm → U.heap.size = H.size + 1 → (∀ q : Nat, q < H.size → U.heap[q]? = H[q]?) → U.heap[H.size]? = some ce → ce.vm = .none → s.vm.findClass th_N = some ce.cls → s.sameButNew ({ U with vm := s.vm } : State) locs (h.1 + 1 - n0) (h.2.1 + 6 - s0) → Qf U := by
  intro U ce q1 q2 q3 q4 q5 q6 q7 q8 q9
  have hn := ax_r_next hR
  exact hE U ce locs (hR.grow q4 q5) hl q1 (by rw [hn]; exact q2) q3 (by rw [hn]; exact q6) q7 q8 q9
theorem ax_throwS {is : Nat} {tx : String} (hT : Thr G) (hM : M.1.cls = "LostRoads") (hs : (is, tx) ∈ th_tx) (hlen : lv.length = M.2.2.1) (hst : ax_sz st ≤ 8) (hd : 6 ≤ d)
    (d0 : decode M.2.1 pc = .ok (.new 194, 3)) (d3 : decode M.2.1 (pc + 3) = .ok (.dup, 1)) (d4 : decode M.2.1 (pc + 4) = .ok (.ldc is, 2)) (d6 : decode M.2.1 (pc + 6) = .ok (.invokespecial 198, 3)) (d9 : decode M.2.1 (pc + 9) = .ok (.athrow, 1))
    (hq : Q (.inr h.1) (h.1 + 1, h.2.1 + 6, h.2.2)) : X G d M pc lv st h Q := by
  refine ⟨.inr h.1, (h.1 + 1, h.2.1 + 6, h.2.2), hq, Nat.le_succ _, Nat.le_add_right _ _, fun ok p e R s m args below meth c C n0 s0 i1 i2 i3 i4 Qf hE H locs ls hR hl hL => ?_⟩
  have hW := C.2.2.2.2.1
  have hC6 := C.2.2.2.2.2.1
  have hC7 := C.2.2.2.2.2.2.1
  obtain ⟨hst0, hU, hN, hv⟩ := hT
  obtain ⟨sa, hsa⟩ := hv _ hs
  have hfc : s.vm.findClass "LostRoads" = some m.cls := by have := C.2.2.2.1; rwa [hM] at this
  have htb : c.exceptionTable.toList = [] := C.2.2.2.2.2.2.2.2.2.2.2 (fun q => by have := q.1; rw [hM] at this; exact absurd this (by decide))
  have j3 : h.1 + 1 - n0 ≤ R.cells := i3
  have j4 : h.2.1 + 6 - s0 ≤ R.slots := i4
  exact ax_thrS (own := "LostRoads") (cls := th_N) (text := tx) (names := th_ns) (ik := 194) (is := is) (ic := 198) (mc := h.1 + 1 - n0) (ms := h.2.1 + 6 - s0) (sa := sa) (A := ax_A G) C.1 C.2.1 hst0 hfc (by decide +kernel) (by decide +kernel)
    (th_use ok hW args List.mem_cons_self) (th_use ok hW args (List.mem_cons_of_mem _ List.mem_cons_self)) (vk_R.warm hW hsa) (fun w hw => th_use ok hW args (List.mem_cons_of_mem _ (List.mem_cons_of_mem _ hw))) th_ot (th_zq hW hR hU) (th_zq hW hR hN)
    (by rw [C.2.2.1]; exact hL.1.trans hlen) d0 d3 d4 d6 d9 (fun x hx => by rw [htb] at hx; cases hx) (by show 2 + 3 < _; omega) (by rw [ax_szm]; show _ + (13 * (2 + 1) + 43) ≤ _; omega) (by omega) (by omega) C.2.2.2.2.2.2.2.2.1 (by omega) (by omega) (th_end hR hl hE)
theorem ax_throwSW {is : Nat} {tx : String} (hT : Thr G) (hM : M.1.cls = "LostRoads") (hs : (is, tx) ∈ th_tx) (hlen : lv.length = M.2.2.1) (hst : ax_sz st ≤ 8) (hd : 6 ≤ d)
    (d0 : decode M.2.1 pc = .ok (.new 194, 3)) (d3 : decode M.2.1 (pc + 3) = .ok (.dup, 1)) (d4 : decode M.2.1 (pc + 4) = .ok (.ldc_w is, 3)) (d7 : decode M.2.1 (pc + 7) = .ok (.invokespecial 198, 3)) (d10 : decode M.2.1 (pc + 10) = .ok (.athrow, 1))
    (hq : Q (.inr h.1) (h.1 + 1, h.2.1 + 6, h.2.2)) : X G d M pc lv st h Q := by
  refine ⟨.inr h.1, (h.1 + 1, h.2.1 + 6, h.2.2), hq, Nat.le_succ _, Nat.le_add_right _ _, fun ok p e R s m args below meth c C n0 s0 i1 i2 i3 i4 Qf hE H locs ls hR hl hL => ?_⟩
  have hW := C.2.2.2.2.1
  have hC6 := C.2.2.2.2.2.1
  have hC7 := C.2.2.2.2.2.2.1
  obtain ⟨hst0, hU, hN, hv⟩ := hT
  obtain ⟨sa, hsa⟩ := hv _ hs
  have hfc : s.vm.findClass "LostRoads" = some m.cls := by have := C.2.2.2.1; rwa [hM] at this
  have htb : c.exceptionTable.toList = [] := C.2.2.2.2.2.2.2.2.2.2.2 (fun q => by have := q.1; rw [hM] at this; exact absurd this (by decide))
  have j3 : h.1 + 1 - n0 ≤ R.cells := i3
  have j4 : h.2.1 + 6 - s0 ≤ R.slots := i4
  exact ax_thrSW (own := "LostRoads") (cls := th_N) (text := tx) (names := th_ns) (ik := 194) (is := is) (ic := 198) (mc := h.1 + 1 - n0) (ms := h.2.1 + 6 - s0) (sa := sa) (A := ax_A G) C.1 C.2.1 hst0 hfc (by decide +kernel) (by decide +kernel)
    (th_use ok hW args List.mem_cons_self) (th_use ok hW args (List.mem_cons_of_mem _ List.mem_cons_self)) (vk_R.warm hW hsa) (fun w hw => th_use ok hW args (List.mem_cons_of_mem _ (List.mem_cons_of_mem _ hw))) th_ot (th_zq hW hR hU) (th_zq hW hR hN)
    (by rw [C.2.2.1]; exact hL.1.trans hlen) d0 d3 d4 d7 d10 (fun x hx => by rw [htb] at hx; cases hx) (by show 2 + 3 < _; omega) (by rw [ax_szm]; show _ + (13 * (2 + 1) + 43) ≤ _; omega) (by omega) (by omega) C.2.2.2.2.2.2.2.2.1 (by omega) (by omega) (th_end hR hl hE)
/-- a method that has thrown -/
theorem ax_metX {M' : ax_M} {d' n k : Nat} {As : List Value} {h1 : ax_H} (hm : ax_m M' n) (hf : ax_sz As ≤ M'.2.2.1) (ok : ax_ok G ax_old)
    (k1 : ax_ok G ax_old → ∀ (p : Program) (e : Env) (R : Room) (s : State) (m : MethodId) (args : Array Value) (below : List Frame) (meth : Method) (c : Code), ax_C G d' M' p R s m meth c →
      ∀ (n0 s0 : Nat), n0 ≤ h.1 → s0 ≤ h.2.1 → h1.1 - n0 ≤ R.cells → h1.2.1 - s0 ≤ R.slots → ∀ Qf : State → Prop, ax_End G M' p e R s m args below meth c n0 s0 (.inr k) h1 Qf →
      ∀ (H : Heap) (locs : List Loc) (ls : Array Slot), ax_R G h H → (∀ q ∈ locs, (gs G).heap.size ≤ q.base) → ax_L G ls (ax_in M'.2.2.1 As) →
      W p (gl G) e R s m args below meth c H locs (h.1 - n0) (h.2.1 - s0) Qf (F0 m 0 ls (([] : List Value).map (ax_v G)))) :
    vx_Met (gl G) M'.1 [.code M'.1 M'.2.1 M'.2.2.1 M'.2.2.2] (ax_rm d' h h1) (ax_Pc G h As) (fun _ _ _ _ => False) (fun E _ t => E = th_N ∧ ax_R G h1 t.heap) (h1.1 - h.1) (h1.2.1 - h.2.1) (fun q => (gs G).heap.size ≤ q) := by
  refine vx_ofW (cc := M'.2.1) (maxL := M'.2.2.1) (ret := M'.2.2.2) hm.2.2.1 rfl ?_
  intro p e s m args below meth c s₁ B hml ht hv
  obtain ⟨rfl, hW, hR⟩ := hv
  have hsz : (gs G).heap.size ≤ s.heap.size := by have := hR.2.1; have := hR.1; omega
  have hC : ax_C G d' M' p (ax_rm d' h h1) s m meth c := ⟨B.exec, B.bytes, hml, findClass_of_methodNamed B.named, hW, Nat.le_refl _, Nat.le_refl _, (name_of_methodNamed B.named B.method).1, B.notSynchronized, hsz, ⟨fun q => absurd q (ax_nwn hm.1), fun _ => List.eq_nil_iff_forall_not_mem.mpr fun x hx => ht x hx⟩⟩
  rw [lg_entry_eq]
  have hE : ax_End G M' p e (ax_rm d' h h1) s m (As.map (ax_v G)).toArray below meth c h.1 h.2.1 (.inr k) h1 (vx_MQ below (fun _ _ _ _ => False) (fun E _ t => E = th_N ∧ ax_R G h1 t.heap) (As.map (ax_v G)).toArray s (h1.1 - h.1) (h1.2.1 - h.2.1) (fun q => (gs G).heap.size ≤ q)) := by
    intro U ce locs hR1 hl q1 q2 q3 q4 q5 q6 q7
    exact ⟨.threw (ax_r G k), q1, q2, Or.inr ⟨ax_r G k, rfl, th_N, ce, locs, ⟨rfl, hR1⟩, q4, q5, q6, q3, q7, hl⟩⟩
  have := k1 ok p e (ax_rm d' h h1) s m (As.map (ax_v G)).toArray below meth c hC h.1 h.2.1 (Nat.le_refl _) (Nat.le_refl _) (Nat.le_refl _) (Nat.le_refl _) _ hE s.heap [] _ hR (fun q hq => by cases hq) (ax_entry hf)
  rw [Nat.sub_self, Nat.sub_self] at this
  exact this
theorem th_cl : ax_g (.classLink "LostRoadsLaw" 13 th_N) ∧ Cond.castable th_N th_N ∈ lw_tbl := ⟨⟨by decide +kernel, by decide +kernel⟩, by decide +kernel⟩
theorem ax_L.none {ls : Array Slot} (a : ls.size = lv.length) (b : lv_wf ls) : ax_L G ls (List.replicate lv.length (none : Option Value)) := ⟨by rw [List.length_replicate]; exact a, b, fun j v hj => by
  rw [List.getElem?_replicate] at hj
  split at hj <;> cases hj⟩
/-- a call out of a wrapper: it returns, or throws and is caught -/
theorem ax_callVT {M' : ax_M} {d' n idx r pcE pcH pcB : Nat} {As rest : List Value} {Cn : String} (hd : decode M.2.1 pc = .ok (.invokevirtual idx, 3)) (hm : ax_m M' n) (w1 : ax_g (.methodLink M.1.cls idx M'.1)) (w2 : ax_g (.instanceMethod M'.1)) (w3 : ax_g (.selects Cn M'.1 M'.1)) (hrec : ax_recv ax_old G h r Cn) (hn : As.length = n) (hst : st = As.reverse ++ .ref r :: rest) (hrw : ax_sz rest ≤ 8) (hf : ax_sz (.ref r :: As) ≤ M'.2.2.1) (hdd : d = d' + 1) (hlen : lv.length = M.2.2.1)
    (hwn : ax_wn M.1) (hhh : ax_hh M.1.name = [(0, pcE, pcH, 13)]) (hpc : pc < pcE)
    (hA : (∃ k : Fin 4, decode M.2.1 pcH = .ok (.astore_n k, 1) ∧ (k : Nat) < lv.length ∧ pcB = pcH + 1) ∨ (∃ i : Nat, decode M.2.1 pcH = .ok (.astore i, 2) ∧ i < lv.length ∧ pcB = pcH + 2)) (Q1 : ax_O → ax_H → Prop)
    (k : X G d' M' 0 (ax_in M'.2.2.1 (.ref r :: As)) [] h Q1) (kk : ∀ o h1, Q1 o h1 → (∃ v, o = .inl v ∧ X G d M (pc + 3) lv (v.toList ++ rest) h1 Q) ∨ (∃ k, o = .inr k ∧ X G d M pcB (List.replicate lv.length none) [] h1 Q)) : X G d M pc lv st h Q := by
  obtain ⟨o, h1, q1, a1, a2, k1⟩ := k
  rcases kk o h1 q1 with ⟨v, rfl, kx⟩ | ⟨k9, rfl, kx⟩
  · exact ax_callV hd hm w1 w2 w3 hrec hn hst hrw hf hdd hlen (fun o' h' => o' = .inl v ∧ h' = h1) ⟨.inl v, h1, ⟨rfl, rfl⟩, a1, a2, k1⟩ (fun o' h' q => ⟨v, q.1, by rw [q.2]; exact kx⟩)
  · obtain ⟨o', h', q', b1, b2, k2⟩ := kx
    refine ⟨o', h', q', by omega, by omega, fun ok p e R s m args below meth c C n0 s0 i1 i2 i3 i4 Qf hE H locs ls hR hl hL => ?_⟩
    have hM := ax_metX hm hf ok k1
    have hW := C.2.2.2.2.1
    have hC6 := C.2.2.2.2.2.1
    have hC7 := C.2.2.2.2.2.2.1
    have hls := hL.1.trans hlen
    have hr : vx_Run p (gl G) e R s m args below meth c H locs (h.1 - n0) (h.2.1 - s0) (h1.1 - h.1) (h1.2.1 - h.2.1) (F0 m pc ls (st.map (ax_v G))) (rest.map (ax_v G)) (fun _ _ _ => False) (fun E _ t => E = th_N ∧ ax_R G h1 t.heap) (fun q => (gs G).heap.size ≤ q) := by
      refine vx_runV (As := As.map (ax_v G)) (b := ax_r G r) (Ts := []) (C := Cn) (n := n) (nL := M.2.2.1) ⟨C.1, C.2.1, C.2.2.1, C.2.2.2.1, fun _ z => by cases z⟩ hM ⟨⟨rfl, rfl, ?_, ?_, ax_code ok hW hm, List.mem_singleton.mpr rfl, ax_w ok hW hm.1 args, ax_w ok hW hm.2.1 args, hm.2.2.2.1, ax_par hm, ax_w ok hW w1 args⟩, ax_w ok hW w2 args, ax_w ok hW w3 args⟩ ⟨ax_blind _, hrec s H ok hW hR, ax_pre ok hW hR (.ref r :: As)⟩ rfl (by rw [List.length_map]; exact hn) hls ?_ ?_ hd ⟨by omega, by omega⟩
      · show d' + 1 ≤ R.frames
        omega
      · show 8 + (M'.2.2.1 + 11) + 64 * d' ≤ R.locals
        have := hm.2.2.2.2.2; omega
      · show st.map (ax_v G) = _
        rw [hst, List.map_append, List.map_reverse]; rfl
      · show 2 * 0 + _ ≤ 8
        rw [ax_szm]
        omega
    intro T hT XX
    rcases hr T hT XX with ⟨v, st₀, t, T', L, e0, X', hL', e1, e2, hF, stp⟩ | ⟨q, st₀, t, T', L, E, ce, e0, X', hL', e1, e2, ⟨rfl, hR1⟩, hce, hcv, hcl, stp⟩
    · exact hF.elim
    · have htb : c.exceptionTable.toList = [] ++ (⟨0, pcE, pcH, 13⟩ : ClassFile.ExceptionTableEntry) :: [] := by
        rw [C.2.2.2.2.2.2.2.2.2.2.1 hwn, hhh]; rfl
      have hcls : M.1.cls = "LostRoadsLaw" := hwn.1
      have hfc : s.vm.findClass "LostRoadsLaw" = some m.cls := by have := C.2.2.2.1; rwa [hcls] at this
      obtain ⟨c0, t0, f1, f2, f3⟩ := Cond.castable_spec (th_cast ok hW th_cl.2 args)
      cases Option.some.inj (f1.symm.trans hcl)
      cases Option.some.inj (f2.symm.trans f1)
      obtain ⟨vm', X'', st2⟩ := th_caught X' q (g := { F0 m pc ls (st.map (ax_v G)) with stack := rest.map (ax_v G) }) rfl (own := "LostRoadsLaw") (name := th_N) hfc [] (⟨0, pcE, pcH, 13⟩ : ClassFile.ExceptionTableEntry) [] htb (fun y hy => by cases hy) (by simp [covers, F0]; omega) (by show (13 : Nat) ≠ 0; decide) (ax_w ok hW th_cl.1 args) (cT := ce.cls) (cell := ce) hcl (by rw [e1]; exact hce) (by rw [hcv]; rfl) f3
      rw [th_push X'] at stp
      have hk : ∀ ls' : Array Slot, ls'.size = lv.length → lv_wf ls' → W p (gl G) e R s m args below meth c T'.heap (locs ++ L) (h.1 - n0 + (h1.1 - h.1)) (h.2.1 - s0 + (h1.2.1 - h.2.1)) Qf (F0 m pcB ls' []) := fun ls' z1 z2 => by
        have := k2 ok p e R s m args below meth c C n0 s0 (by omega) (by omega) i3 i4 Qf hE T'.heap (locs ++ L) ls' (by rw [e1]; exact hR1) (fun q hq => by
          rcases List.mem_append.mp hq with z | z
          · exact hl q z
          · exact hL' q z) (ax_L.none z1 z2)
        rw [show h1.1 - n0 = h.1 - n0 + (h1.1 - h.1) by omega, show h1.2.1 - s0 = h.2.1 - s0 + (h1.2.1 - h.2.1) by omega] at this
        exact this
      have hW2 : W p (gl G) e R s m args below meth c T'.heap (locs ++ L) (h.1 - n0 + (h1.1 - h.1)) (h.2.1 - s0 + (h1.2.1 - h.2.1)) Qf (F0 m pcH ls [.ref q]) := by
        rcases hA with ⟨k, dA, kA, rfl⟩ | ⟨i, dA, iA, rfl⟩
        · exact lv_astore_n C.1 C.2.1 dA rfl hL.has kA rfl (fun ls' h' => hk ls' h'.1 h'.2.1)
        · exact lv_astore C.1 C.2.1 dA hL.has iA rfl (fun ls' h' => hk ls' h'.1 h'.2.1)
      obtain ⟨t2, c1, c2⟩ := hW2 (T'.setVm vm') rfl X''
      exact ⟨t2, stp.trans (st2 _ c1), c2⟩
/-- a wrapper's own words -/
def ax_mw (M : ax_M) (n : Nat) : Prop := ax_g (.codeWith M.1 M.2.1 M.2.2.1 M.2.2.2 (ax_hh M.1.name)) ∧ ax_g (.initialized M.1.cls) ∧ plainName M.1.cls = true ∧ (M.1.cls ≠ "java/lang/invoke/MethodHandle" ∧ M.1.cls ≠ "java/lang/invoke/VarHandle") ∧ (parseMethodDescriptor M.1.desc).map (fun d => d.parameters.length) = some n ∧ M.2.2.1 ≤ 45 ∧ ax_wn M.1 ∧ M.2.2.2 = some .int
theorem ax_metW {M' : ax_M} {d' n : Nat} {As : List Value} {r : Option Value} {h1 : ax_H} (hm : ax_mw M' n) (hf : ax_sz As ≤ M'.2.2.1) (ok : ax_ok G ax_old)
    (k1 : ax_ok G ax_old → ∀ (p : Program) (e : Env) (R : Room) (s : State) (m : MethodId) (args : Array Value) (below : List Frame) (meth : Method) (c : Code), ax_C G d' M' p R s m meth c →
      ∀ (n0 s0 : Nat), n0 ≤ h.1 → s0 ≤ h.2.1 → h1.1 - n0 ≤ R.cells → h1.2.1 - s0 ≤ R.slots → ∀ Qf : State → Prop, ax_End G M' p e R s m args below meth c n0 s0 (.inl r) h1 Qf →
      ∀ (H : Heap) (locs : List Loc) (ls : Array Slot), ax_R G h H → (∀ q ∈ locs, (gs G).heap.size ≤ q.base) → ax_L G ls (ax_in M'.2.2.1 As) →
      W p (gl G) e R s m args below meth c H locs (h.1 - n0) (h.2.1 - s0) Qf (F0 m 0 ls (([] : List Value).map (ax_v G)))) :
    vx_Met (gl G) M'.1 [.codeWith M'.1 M'.2.1 M'.2.2.1 M'.2.2.2 (ax_hh M'.1.name)] (ax_rm d' h h1) (ax_Pc G h As) (ax_Qc G h1 r) (fun _ _ _ => False) (h1.1 - h.1) (h1.2.1 - h.2.1) (fun q => (gs G).heap.size ≤ q) := by
  refine vx_ofWH (cc := M'.2.1) (maxL := M'.2.2.1) (ret := M'.2.2.2) (hh := ax_hh M'.1.name) hm.2.2.1 rfl ?_
  intro p e s m args below meth c s₁ B hml hv
  obtain ⟨rfl, hW, hR⟩ := hv
  have hsz : (gs G).heap.size ≤ s.heap.size := by have := hR.2.1; have := hR.1; omega
  have htab := vx_table (x := M'.1) B (ax_w ok hW hm.1 (As.map (ax_v G)).toArray)
  have hC : ax_C G d' M' p (ax_rm d' h h1) s m meth c := ⟨B.exec, B.bytes, hml, findClass_of_methodNamed B.named, hW, Nat.le_refl _, Nat.le_refl _, (name_of_methodNamed B.named B.method).1, B.notSynchronized, hsz, ⟨fun _ => htab, fun q => absurd hm.2.2.2.2.2.2.1 q⟩⟩
  rw [lg_entry_eq]
  have hE : ax_End G M' p e (ax_rm d' h h1) s m (As.map (ax_v G)).toArray below meth c h.1 h.2.1 (.inl r) h1 (vx_MQ below (ax_Qc G h1 r) (fun _ _ _ => False) (As.map (ax_v G)).toArray s (h1.1 - h.1) (h1.2.1 - h.2.1) (fun q => (gs G).heap.size ≤ q)) := by
    intro H locs pc ls i hR1 hl hr hd
    have hq : ∀ t : State, t.heap = H → s.WarmedH t.vm → ax_Qc G h1 r (As.map (ax_v G)).toArray s (.returned (r.map (ax_v G))) t := fun t ht hw => ⟨rfl, State.WarmedH.trans hW hw, by rw [ht]; exact hR1⟩
    have hret := hm.2.2.2.2.2.2.2
    rcases hr with ⟨x, rfl, rfl, h2 | ⟨h2, hx⟩⟩ | ⟨x, rfl, rfl, h2⟩ | ⟨k, Cn, rfl, rfl, h2⟩ | ⟨rfl, rfl, h2⟩
    · exact vx_ret (W.iret (v := x) B.exec B.bytes (B.returns.trans h2) hq hl hd B.notSynchronized)
    · rw [hret] at h2; cases h2
    · rw [hret] at h2; cases h2
    · rw [hret] at h2; cases h2
    · rw [hret] at h2; cases h2
  have := k1 ok p e (ax_rm d' h h1) s m (As.map (ax_v G)).toArray below meth c hC h.1 h.2.1 (Nat.le_refl _) (Nat.le_refl _) (Nat.le_refl _) (Nat.le_refl _) _ hE s.heap [] _ hR (fun q hq => by cases hq) (ax_entry hf)
  rw [Nat.sub_self, Nat.sub_self] at this
  exact this
/-- the law calls a wrapper -/
theorem ax_callSW {M' : ax_M} {d' n idx : Nat} {As rest : List Value} (hd : decode M.2.1 pc = .ok (.invokestatic idx, 3)) (hm : ax_mw M' n) (w1 : ax_g (.methodLink M.1.cls idx M'.1)) (w2 : ax_g (.static M'.1)) (hn : As.length = n) (hst : st = As.reverse ++ rest) (hrw : ax_sz rest ≤ 8) (hf : ax_sz As ≤ M'.2.2.1) (hdd : d = d' + 1) (hlen : lv.length = M.2.2.1)
    (k : X G d' M' 0 (ax_in M'.2.2.1 As) [] h (ax_K G d M pc lv rest Q)) : X G d M pc lv st h Q := by
  obtain ⟨o, h1, ⟨r, rfl, kx⟩, a1, a2, k1⟩ := k
  obtain ⟨o', h', q', b1, b2, k2⟩ := kx
  refine ⟨o', h', q', by omega, by omega, fun ok p e R s m args below meth c C n0 s0 i1 i2 i3 i4 Qf hE H locs ls hR hl hL => ?_⟩
  have hM := ax_metW hm hf ok k1
  have hW := C.2.2.2.2.1
  have hC6 := C.2.2.2.2.2.1
  have hC7 := C.2.2.2.2.2.2.1
  have hr : vx_Run p (gl G) e R s m args below meth c H locs (h.1 - n0) (h.2.1 - s0) (h1.1 - h.1) (h1.2.1 - h.2.1) (F0 m pc ls (st.map (ax_v G))) (rest.map (ax_v G)) (ax_Qc G h1 r (As.map (ax_v G)).toArray) (fun _ _ _ => False) (fun q => (gs G).heap.size ≤ q) := by
    refine vx_runSX (As := As.map (ax_v G)) (Ts := []) (n := n) (nL := M.2.2.1) (hh := ax_hh M'.1.name) (bytes := M'.2.1) (maxL := M'.2.2.1) (ret := M'.2.2.2) ⟨C.1, C.2.1, C.2.2.1, C.2.2.2.1, fun _ z => by cases z⟩ hM ⟨⟨rfl, rfl, ?_, ?_, ?_, List.mem_singleton.mpr rfl⟩, ax_w ok hW hm.1 args, ax_w ok hW hm.2.1 args, hm.2.2.2.1, ?_, ax_w ok hW w1 args, ax_w ok hW w2 args⟩ ⟨ax_blind _, ax_pre ok hW hR As⟩ rfl (by rw [List.length_map]; exact hn) (hL.1.trans hlen) ?_ ?_ hd ⟨by omega, by omega⟩
    · show d' + 1 ≤ R.frames
      omega
    · show 8 + (M'.2.2.1 + 11) + 64 * d' ≤ R.locals
      have := hm.2.2.2.2.2.1; omega
    · intro w hw a' U hU
      rw [List.mem_singleton.mp hw]
      exact ax_w ok (State.WarmedH.trans hW hU) hm.1 a'
    · intro sig hs
      have := hm.2.2.2.2.1
      rw [hs] at this
      exact (Option.some.inj this).symm
    · show st.map (ax_v G) = _
      rw [hst, List.map_append, List.map_reverse]
    · show 2 * 0 + _ ≤ 8
      rw [ax_szm]
      omega
  intro T hT XX
  rcases hr T hT XX with ⟨v, st₀, t, T', L, e0, X', hL', e1, e2, ⟨hv, hW1, hR1⟩, stp⟩ | ⟨q, st₀, t, T', L, E, ce, e0, X', hL', e1, e2, hF, -⟩
  · cases hv
    have := k2 ok p e R s m args below meth c C n0 s0 (by omega) (by omega) i3 i4 Qf hE T'.heap (locs ++ L) ls (by rw [e1]; exact hR1) (fun q hq => by
      rcases List.mem_append.mp hq with z | z
      · exact hl q z
      · exact hL' q z) hL
    rw [show h1.1 - n0 = h.1 - n0 + (h1.1 - h.1) by omega, show h1.2.1 - s0 = h.2.1 - s0 + (h1.2.1 - h.2.1) by omega, List.map_append, show (r.toList.map (ax_v G)) = (r.map (ax_v G)).toList by cases r <;> rfl] at this
    obtain ⟨t2, c1, c2⟩ := this T' rfl X'
    exact ⟨t2, stp t2 c1, c2⟩
  · exact hF.elim
end TH
