/-! ===== AM: rules of the heap ===== -/
def ax_wr (h : ax_H) (k : Nat) (e : ax_E) : ax_H := (h.1, h.2.1, fun j => if j = k then some e else h.2.2 j)
def ax_al (h : ax_H) (sz : Nat) (e : ax_E) : ax_H := (h.1 + 1, h.2.1 + sz, fun j => if j = h.1 then some e else h.2.2 j)
theorem ax_cls : ∀ (c : Nat) (q : vw_C), vwCl[c]? = some q → (∀ w ∈ u_ws q.1 q.2.1 q.2.2, ax_g w) ∧ (∀ k, k < q.2.2 → ∃ ty, parseFieldDescriptor (q.2.1 k).2.2.1 = some ty) ∧ (∀ a, a < q.2.2 → ∀ b, b < q.2.2 → a ≠ b → (q.2.1 a).2.1 ≠ (q.2.1 b).2.1) := by
  intro c q hq
  have key : ∀ q ∈ vwCl, (∀ w ∈ u_ws q.1 q.2.1 q.2.2, w ∈ lw_tbl ∧ goodWord w = true) ∧ (∀ k, k < q.2.2 → (parseFieldDescriptor (q.2.1 k).2.2.1).isSome = true) ∧ (∀ a, a < q.2.2 → ∀ b, b < q.2.2 → a ≠ b → (q.2.1 a).2.1 ≠ (q.2.1 b).2.1) := by decide +kernel
  obtain ⟨h1, h2, h3⟩ := key q (List.mem_of_getElem? hq)
  exact ⟨h1, fun k hk => Option.isSome_iff_exists.mp (h2 k hk), h3⟩
section AMH
variable {old : ax_G → Prop} {G : ax_G} {d : Nat} {M : ax_M} {pc : Nat} {lv : List (Option Value)} {st : List Value} {h : ax_H} {Q : ax_O → ax_H → Prop}
theorem ax_r_new {k : Nat} (hk : 64 ≤ k) : ax_r G k = (gs G).heap.size + (k - 64) := by
  unfold ax_r
  rw [if_neg (by omega)]
theorem ax_r_ne {j k : Nat} (hj : 64 ≤ j) (hk : 64 ≤ k) (hn : j ≠ k) : ax_r G j ≠ ax_r G k := by
  rw [ax_r_new hj, ax_r_new hk]
  omega
theorem ax_r_next {H : Heap} (hR : ax_R G h H) : ax_r G h.1 = H.size := by
  rw [ax_r_new hR.1]
  have := hR.2.1
  have := hR.1
  omega
theorem ax_R.wr {H H1 : Heap} {k : Nat} {e0 e : ax_E} (hR : ax_R G h H) (hk : h.2.2 k = some e0) (he : va_at (gd G) vwCl (ax_r G k, ax_e G e) H1) (z : H1.size = H.size) (oq : ∀ q : Nat, q ≠ ax_r G k → H1[q]? = H[q]?) : ax_R G (ax_wr h k e) H1 := by
  obtain ⟨g1, g2, g3, g4⟩ := hR
  obtain ⟨k1, k2, -⟩ := g4 k e0 hk
  refine ⟨g1, by rw [z]; exact g2, fun q hq => ?_, fun j e' hj => ?_⟩
  · rw [oq q (by rw [ax_r_new k1]; omega)]
    exact g3 q hq
  · by_cases hjk : j = k
    · subst hjk
      have e2 : some e = some e' := by simpa [ax_wr] using hj
      cases e2
      exact ⟨k1, k2, he⟩
    · have hj' : h.2.2 j = some e' := by simpa [ax_wr, hjk] using hj
      obtain ⟨j1, j2, j3⟩ := g4 j e' hj'
      exact ⟨j1, j2, j3.kept (oq _ (ax_r_ne j1 k1 hjk))⟩
theorem ax_R.al {H H1 : Heap} {sz : Nat} {e : ax_E} (hR : ax_R G h H) (he : va_at (gd G) vwCl (H.size, ax_e G e) H1) (z : H1.size = H.size + 1) (oq : ∀ q : Nat, q < H.size → H1[q]? = H[q]?) : ax_R G (ax_al h sz e) H1 := by
  have hn := ax_r_next hR
  obtain ⟨g1, g2, g3, g4⟩ := hR
  refine ⟨by show 64 ≤ h.1 + 1; omega, by show H1.size + 64 = _ + (h.1 + 1); omega, fun q hq => ?_, fun j e' hj => ?_⟩
  · rw [oq q (by omega)]
    exact g3 q hq
  · by_cases hjk : j = h.1
    · subst hjk
      have e2 : some e = some e' := by simpa [ax_al] using hj
      cases e2
      exact ⟨g1, by show h.1 < h.1 + 1; omega, by rw [hn]; exact he⟩
    · have hj' : h.2.2 j = some e' := by simpa [ax_al, hjk] using hj
      obtain ⟨j1, j2, j3⟩ := g4 j e' hj'
      exact ⟨j1, by show j < h.1 + 1; omega, j3.kept (oq _ j3.lt)⟩
/-- a step that writes to the heap -/
theorem ax_goH {pc' : Nat} {st' : List Value} {h1 : ax_H} (e1 : h1.1 = h.1) (e2 : h1.2.1 = h.2.1) (hk : ∀ (p : Program) (e : Env) (R : Room) (s : State) (m : MethodId) (args : Array Value) (below : List Frame) (meth : Method) (c : Code) (H : Heap) (locs : List Loc) (cells slots : Nat) (Qf : State → Prop) (ls : Array Slot), ax_ok G old → ax_C G d M p R s m meth c → ax_L G ls lv → ax_R G h H → (∀ q ∈ locs, (gs G).heap.size ≤ q.base) →
      (∀ (H1 : Heap) (locs1 : List Loc), ax_R G h1 H1 → (∀ q ∈ locs1, (gs G).heap.size ≤ q.base) → W p (gl G) e R s m args below meth c H1 locs1 cells slots Qf (F0 m pc' ls (st'.map (ax_v G)))) → W p (gl G) e R s m args below meth c H locs cells slots Qf (F0 m pc ls (st.map (ax_v G))))
    (k : ax_X old G d M pc' lv st' h1 Q) : ax_X old G d M pc lv st h Q := by
  obtain ⟨o, h', hq, g1, g2, k⟩ := k
  rw [e1] at g1
  rw [e2] at g2
  refine ⟨o, h', hq, g1, g2, fun ok p e R s m args below meth c C n0 s0 i1 i2 i3 i4 Qf hE H locs ls hR hl hL => hk p e R s m args below meth c H locs _ _ Qf ls ok C hL hR hl (fun H1 locs1 hR1 hl1 => ?_)⟩
  have := k ok p e R s m args below meth c C n0 s0 (by rw [e1]; exact i1) (by rw [e2]; exact i2) i3 i4 Qf hE H1 locs1 ls hR1 hl1 hL
  rw [e1, e2] at this
  exact this
/-- a step that makes a cell -/
theorem ax_goA {pc' sz : Nat} {st' : List Value} {h1 : ax_H} (e1 : h1.1 = h.1 + 1) (e2 : h1.2.1 = h.2.1 + sz) (hk : ∀ (p : Program) (e : Env) (R : Room) (s : State) (m : MethodId) (args : Array Value) (below : List Frame) (meth : Method) (c : Code) (H : Heap) (locs : List Loc) (cells slots : Nat) (Qf : State → Prop) (ls : Array Slot), ax_ok G old → ax_C G d M p R s m meth c → ax_L G ls lv → ax_R G h H → cells + 1 ≤ R.cells → slots + sz ≤ R.slots →
      (∀ (H1 : Heap), ax_R G h1 H1 → W p (gl G) e R s m args below meth c H1 locs (cells + 1) (slots + sz) Qf (F0 m pc' ls (st'.map (ax_v G)))) → W p (gl G) e R s m args below meth c H locs cells slots Qf (F0 m pc ls (st.map (ax_v G))))
    (k : ax_X old G d M pc' lv st' h1 Q) : ax_X old G d M pc lv st h Q := by
  obtain ⟨o, h', hq, g1, g2, k⟩ := k
  rw [e1] at g1
  rw [e2] at g2
  refine ⟨o, h', hq, by omega, by omega, fun ok p e R s m args below meth c C n0 s0 i1 i2 i3 i4 Qf hE H locs ls hR hl hL => hk p e R s m args below meth c H locs _ _ Qf ls ok C hL hR (by omega) (by omega) (fun H1 hR1 => ?_)⟩
  have := k ok p e R s m args below meth c C n0 s0 (by omega) (by omega) i3 i4 Qf hE H1 locs ls hR1 hl hL
  rw [e1, e2, show h.1 + 1 - n0 = h.1 - n0 + 1 by omega, show h.2.1 + sz - s0 = h.2.1 - s0 + sz by omega] at this
  exact this
/-- a field by the pool's index: class number, place, type, final -/
def ax_F (own : String) (idx ci k : Nat) (ty : FieldType) (fin : Bool) : Prop := ∃ q : vw_C, vwCl[ci]? = some q ∧ k < q.2.2 ∧ ax_g (.fieldLink own idx (q.2.1 k).1 (q.2.1 k).2.1 (q.2.1 k).2.2.1) ∧ parseFieldDescriptor (q.2.1 k).2.2.1 = some ty ∧ (q.2.1 k).2.2.2 = fin ∧ (q.2.1 k).1 = q.1
theorem ax_kn (ok : ax_ok G old) {s : State} (hW : (gs G).WarmedH s.vm) {ci : Nat} {q : vw_C} (hq : vwCl[ci]? = some q) : u_Kn s q.1 q.2.1 q.2.2 ((gd G).1 ci) ((gd G).2 ci) := u_Kn_moved hW.alike (ok.2.1 ci q hq)
theorem ax_us (ok : ax_ok G old) {s : State} (hW : (gs G).WarmedH s.vm) {ci : Nat} {q : vw_C} (hq : vwCl[ci]? = some q) (args : Array Value) : ∀ w ∈ u_ws q.1 q.2.1 q.2.2, w.before args s = true := fun w hw => ax_w ok hW ((ax_cls ci q hq).1 w hw) args
theorem ax_getD (fs : List Value) (k : Nat) : vp_V (fs.map (ax_v G)) k = ax_v G (vp_V fs k) := by
  unfold vp_V
  rw [List.getD_eq_getElem?_getD, List.getD_eq_getElem?_getD, List.getElem?_map]
  cases fs[k]? <;> rfl
theorem ax_getf {idx ci k r : Nat} {ty : FieldType} {fin : Bool} {fs : List Value} {v : Value} (hd : decode M.2.1 pc = .ok (.getfield idx, 3)) (hF : ax_F M.1.cls idx ci k ty fin) (he : h.2.2 r = some (.inr (ci, fs))) (hv : fs[k]? = some v) (kk : ax_X old G d M (pc + 3) lv (v :: st) h Q) : ax_X old G d M pc lv (.ref r :: st) h Q := by
  obtain ⟨q, hq, hk, hw, -⟩ := hF
  refine ax_go (st := .ref r :: st) (st' := v :: st) (fun p e R s m args below meth c H locs cells slots Qf ls ok C hL hR w => ?_) kk
  obtain ⟨-, -, r', h1, cell, q1, q2, q3, q4⟩ := hR.2.2.2 r _ he
  cases Option.some.inj (h1.symm.trans hq)
  obtain ⟨hS, hfc, kC, hkC, hkind⟩ := ax_kn ok C.2.2.2.2.1 hq
  obtain ⟨cf, kf, fi, f, hi, hsl⟩ := hS k hk
  refine W.getf C.1 C.2.1 C.2.2.2.1 (ax_w ok C.2.2.2.2.1 hw args) hi (u_facts hfc hkC (u_lays (ax_us ok C.2.2.2.2.1 hq args) (fun _ z => z) hk) hi).1 q1 (by rw [q3]; exact fun h => by cases h) (v := ax_v G v) ?_ rfl rfl hd w
  rw [hsl, q4 k hk, ax_getD]
  simp [vp_V, hv]
theorem ax_aps (ok : ax_ok G old) {s : State} (hW : (gs G).WarmedH s.vm) {ci : Nat} {q : vw_C} (hq : vwCl[ci]? = some q) : ∀ x y, x < q.2.2 → y < q.2.2 → x ≠ y → ((gd G).2 ci) x ≠ ((gd G).2 ci) y := by
  intro x y hx hy hne
  obtain ⟨hS, -⟩ := ax_kn ok hW hq
  obtain ⟨_, _, _, fa, hia, ea⟩ := hS x hx
  obtain ⟨_, _, _, fb, hib, eb⟩ := hS y hy
  obtain ⟨-, hp, hn⟩ := ax_cls ci q hq
  obtain ⟨tx, htx⟩ := hp x hx
  obtain ⟨ty, hty⟩ := hp y hy
  rw [← ea, ← eb]
  refine u_apart (u_lays (ax_us ok hW hq #[]) (fun _ z => z) hx) (u_lays (ax_us ok hW hq #[]) (fun _ z => z) hy) hia hib ?_
  rw [(State.fieldFound?_type hia htx).1, (State.fieldFound?_type hib hty).1]
  exact hn x hx y hy hne
theorem ax_setD (fs : List Value) {k : Nat} (hk : k < fs.length) (v : Value) (j : Nat) : updV (vp_V (fs.map (ax_v G))) k (ax_v G v) j = vp_V ((fs.set k v).map (ax_v G)) j := by
  rw [vp_updV_set (by simpa using hk)]
  rw [List.map_set]
theorem ax_putf {idx ci k r : Nat} {ty : FieldType} {fs : List Value} {v : Value} (hd : decode M.2.1 pc = .ok (.putfield idx, 3)) (hF : ax_F M.1.cls idx ci k ty false) (he : h.2.2 r = some (.inr (ci, fs))) (hl : k < fs.length) (hn : ∀ G : ax_G, narrow ty (ax_v G v) = ax_v G v ∧ fits ty (ax_v G v) = true) (kk : ax_X old G d M (pc + 3) lv st (ax_wr h r (.inr (ci, fs.set k v))) Q) : ax_X old G d M pc lv (v :: .ref r :: st) h Q := by
  obtain ⟨q, hq, hk, hw, hp, hfin, -⟩ := hF
  refine ax_goH (st := v :: .ref r :: st) (st' := st) (h1 := ax_wr h r (.inr (ci, fs.set k v))) rfl rfl (fun p e R s m args below meth c H locs cells slots Qf ls ok C hL hR hlc w => ?_) kk
  have hW := C.2.2.2.2.1
  obtain ⟨g1, -, r', h1, cell, q1, q2, q3, q4⟩ := hR.2.2.2 r _ he
  cases Option.some.inj (h1.symm.trans hq)
  have hap := ax_aps ok hW hq
  obtain ⟨hS, hfc, kC, hkC, hkind⟩ := ax_kn ok hW hq
  obtain ⟨cf, kf, fi, f, hi, hsl⟩ := hS k hk
  have hlay := ax_us ok hW hq args _ (u_in_lay hk)
  unfold u_lay at hlay
  rw [if_neg (by rw [hfin]; decide)] at hlay
  have hst := (u_facts hfc hkC (u_lays (ax_us ok hW hq args) (fun _ z => z) hk) hi).1
  have h6 := u_store hfc hkC hkind hlay hi hp (hn G).1 (hn G).2
  refine W.putK C.1 C.2.1 (f := f) ⟨C.2.2.2.1, ax_w ok hW hw args, ⟨_, _, _, hi⟩, hst⟩ (by rw [q2]; exact h6) q1 q3 (by rw [hsl]; exact k2_hasslot (q4 k hk)) rfl rfl hd fun H' e1 e2 e3 => ?_
  rw [hsl] at e1 ⊢
  refine w H' _ (hR.wr he ⟨_, hq, t_OB.to (V := updV (vp_V (fs.map (ax_v G))) k (ax_v G v)) ⟨_, e1, q2, q3, t_set q4 hap hk _⟩ (fun j _ => ax_setD fs hl v j)⟩ e2 e3) (fun z hz => ?_)
  rcases List.mem_append.mp hz with h0 | h0
  · exact hlc z h0
  · rw [List.mem_singleton.mp h0]
    show _ ≤ ax_r G r
    rw [ax_r_new g1]
    omega
theorem ax_putF {idx ci k r : Nat} {ty : FieldType} {fs : List Value} {v : Value} (hd : decode M.2.1 pc = .ok (.putfield idx, 3)) (hF : ax_F M.1.cls idx ci k ty true) (hcl : ∀ q, vwCl[ci]? = some q → q.1 = M.1.cls) (hin : M.1.name = "<init>") (he : h.2.2 r = some (.inr (ci, fs))) (hl : k < fs.length) (hn : ∀ G : ax_G, narrow ty (ax_v G v) = ax_v G v ∧ fits ty (ax_v G v) = true) (kk : ax_X old G d M (pc + 3) lv st (ax_wr h r (.inr (ci, fs.set k v))) Q) : ax_X old G d M pc lv (v :: .ref r :: st) h Q := by
  obtain ⟨q, hq, hk, hw, hp, hfin, hown1⟩ := hF
  refine ax_goH (st := v :: .ref r :: st) (st' := st) (h1 := ax_wr h r (.inr (ci, fs.set k v))) rfl rfl (fun p e R s m args below meth c H locs cells slots Qf ls ok C hL hR hlc w => ?_) kk
  have hW := C.2.2.2.2.1
  obtain ⟨g1, -, r', h1, cell, q1, q2, q3, q4⟩ := hR.2.2.2 r _ he
  cases Option.some.inj (h1.symm.trans hq)
  have hap := ax_aps ok hW hq
  obtain ⟨hS, hfc, kC, hkC, hkind⟩ := ax_kn ok hW hq
  obtain ⟨cf, kf, fi, f, hi, hsl⟩ := hS k hk
  have hlay := ax_us ok hW hq args _ (u_in_lay hk)
  unfold u_lay at hlay
  rw [if_pos hfin] at hlay
  have hst := (u_facts hfc hkC (u_lays (ax_us ok hW hq args) (fun _ z => z) hk) hi).1
  have hcf : m.cls = cf := by
    obtain ⟨_, _, c', _, _, _, -, -, hf', -, -, -, hown2, -⟩ := Cond.laysFinal_spec hlay
    have e1 : c' = cf := by have := hi.symm.trans hf'; simp at this; exact this.1.symm
    rw [hown1, hcl q hq] at hown2
    rw [← e1]; exact Option.some.inj (C.2.2.2.1.symm.trans hown2)
  have h6 := u_fits hfc hkC hkind (Or.inr hlay) hi hp (hn G).1 (hn G).2
  refine W.putFinK C.1 C.2.1 C.2.2.2.1 (ax_w ok hW hw args) hi hst hcf (C.2.2.2.2.2.2.2.1.trans hin) (by rw [q2]; exact h6) q1 q3 (by rw [hsl]; exact k2_hasslot (q4 k hk)) rfl rfl hd fun H' e1 e2 e3 => ?_
  rw [hsl] at e1 ⊢
  refine w H' _ (hR.wr he ⟨_, hq, t_OB.to (V := updV (vp_V (fs.map (ax_v G))) k (ax_v G v)) ⟨_, e1, q2, q3, t_set q4 hap hk _⟩ (fun j _ => ax_setD fs hl v j)⟩ e2 e3) (fun z hz => ?_)
  rcases List.mem_append.mp hz with h0 | h0
  · exact hlc z h0
  · rw [List.mem_singleton.mp h0]
    show _ ≤ ax_r G r
    rw [ax_r_new g1]
    omega
/-- 'new' -/
def ax_N (own : String) (idx ci N : Nat) (fs : List Value) : Prop := ∃ q : vw_C, vwCl[ci]? = some q ∧ q.2.2 = N ∧ ax_g (.classLink own idx q.1) ∧ ax_g (.instantiable q.1 N) ∧ ax_g (.initialized q.1) ∧ ∀ j, j < N → ∀ ty, parseFieldDescriptor (q.2.1 j).2.2.1 = some ty → defaultValue ty = vp_V fs j
theorem ax_newo {idx ci N : Nat} {fs : List Value} (hd : decode M.2.1 pc = .ok (.new idx, 3)) (hN : ax_N M.1.cls idx ci N fs) (hfs : ∀ G : ax_G, fs.map (ax_v G) = fs) (kk : ax_X old G d M (pc + 3) lv (.ref h.1 :: st) (ax_al h N (.inr (ci, fs))) Q) : ax_X old G d M pc lv st h Q := by
  obtain ⟨q, hq, hn, w1, w2, w3, hdf⟩ := hN
  refine ax_goA (sz := N) (st := st) (st' := .ref h.1 :: st) (h1 := ax_al h N (.inr (ci, fs))) rfl rfl (fun p e R s m args below meth c H locs cells slots Qf ls ok C hL hR hc1 hc2 w => ?_) kk
  have hW := C.2.2.2.2.1
  have hKn := ax_kn ok hW hq
  refine W.newcK C.1 C.2.1 C.2.2.2.1 (ax_w ok hW w1 args) (ax_w ok hW w2 args) (ax_w ok hW w3 args) rfl hd hc1 hc2 hKn.2.1 rfl fun H1 kC hkC e1 z1 o1 => ?_
  obtain ⟨-, hp, -⟩ := ax_cls ci q hq
  have hty : ∀ k, k < q.2.2 → parseFieldDescriptor (q.2.1 k).2.2.1 = some ((parseFieldDescriptor (q.2.1 k).2.2.1).getD .int) := fun k hk => by
    obtain ⟨ty, ht⟩ := hp k hk
    rw [ht]; rfl
  have hob := u_born (fun k => (parseFieldDescriptor (q.2.1 k).2.2.1).getD .int) (ax_us ok hW hq args) (fun _ z => z) hKn hkC e1 hty
  have := w H1 (hR.al (e := .inr (ci, fs)) ⟨q, hq, hob.to (fun k hk => by
    rw [ax_getD, ← ax_getD, hfs G]
    exact hdf k (by omega) _ (hty k hk))⟩ z1 o1)
  rw [List.map_cons, show ax_v G (.ref h.1) = .ref H.size by show Value.ref _ = _; rw [ax_r_next hR]] at this
  exact this
end AMH
