/-! ===== AM: an abstract machine over the kit's W. Keys stand for addresses: below 64 what was there before the law, from 64 on what was made since ===== -/
abbrev ax_E : Type := (FieldType × vp_A) ⊕ (Nat × List Value)
abbrev ax_H : Type := Nat × Nat × (Nat → Option ax_E)
abbrev ax_G : Type := Launch × State × va_G × (FieldType → ClassId) × (Nat → Nat) × Nat × (Nat → Int32)
abbrev ax_M : Type := MethodName × ByteArray × Nat × Option FieldType
abbrev ax_O : Type := Option Value ⊕ Nat
abbrev gl (G : ax_G) : Launch := G.1
abbrev gs (G : ax_G) : State := G.2.1
abbrev gd (G : ax_G) : va_G := G.2.2.1
abbrev gt (G : ax_G) : FieldType → ClassId := G.2.2.2.1
abbrev ga (G : ax_G) : Nat → Nat := G.2.2.2.2.1
abbrev gn (G : ax_G) : Nat := G.2.2.2.2.2.1
abbrev gx (G : ax_G) : Nat → Int32 := G.2.2.2.2.2.2
def ax_r (G : ax_G) (k : Nat) : Nat := if k < 64 then ga G k else (gs G).heap.size + (k - 64)
def ax_v (G : ax_G) : Value → Value
  | .ref k => .ref (ax_r G k)
  | .int x => .int x
  | .long x => .long x
  | .float x => .float x
  | .double x => .double x
  | .null => .null
  | .retAddr p => .retAddr p
def ax_a (G : ax_G) : vp_A → vp_A
  | (n, .inl f) => (n, .inl f)
  | (n, .inr (.inl f)) => (n, .inr (.inl f))
  | (n, .inr (.inr (.inl f))) => (n, .inr (.inr (.inl f)))
  | (n, .inr (.inr (.inr (.inl f)))) => (n, .inr (.inr (.inr (.inl f))))
  | (n, .inr (.inr (.inr (.inr f)))) => (n, .inr (.inr (.inr (.inr (fun j => (f j).map (ax_r G))))))
def ax_e (G : ax_G) : ax_E → va_E
  | .inl (ty, a) => .inl (gt G ty, ax_a G a)
  | .inr (ci, fs) => .inr (ci, fs.map (ax_v G))
theorem ax_cat (G : ax_G) (v : Value) : (ax_v G v).category = v.category := by cases v <;> rfl
/-- the real heap holds what the abstract one says -/
def ax_R (G : ax_G) (h : ax_H) (H : Heap) : Prop :=
  64 ≤ h.1 ∧ H.size + 64 = (gs G).heap.size + h.1 ∧ (∀ q : Nat, q < (gs G).heap.size → H[q]? = (gs G).heap[q]?) ∧
    ∀ (k : Nat) (e : ax_E), h.2.2 k = some e → 64 ≤ k ∧ k < h.1 ∧ va_at (gd G) vwCl (ax_r G k, ax_e G e) H
def ax_tys : List FieldType := [.int, .long, .byte, .boolean, .object "LostRoads$Token", .object "LostRoads$State"]
/-- a word of the tables that keeps -/
def ax_g (w : Cond) : Prop := w ∈ lw_tbl ∧ goodWord w = true
/-- what is asked of the old world besides: see ax_old further on -/
def ax_ok (G : ax_G) (old : ax_G → Prop) : Prop :=
  (∃ a0 : Array Value, ∀ w ∈ lw_tbl, w.before a0 (gs G) = true) ∧
  (∀ (c : Nat) (q : vw_C), vwCl[c]? = some q → u_Kn (gs G) q.1 q.2.1 q.2.2 ((gd G).1 c) ((gd G).2 c)) ∧
  (∀ ty ∈ ax_tys, ArrOfT (gs G) (gt G ty) ty ∧ va_RA (gs G) (gt G ty) ty) ∧ old G
/-- locals by their places -/
def ax_L (G : ax_G) (ls : Array Slot) (lv : List (Option Value)) : Prop :=
  ls.size = lv.length ∧ lv_wf ls ∧ ∀ (j : Nat) (v : Value), lv[j]? = some (some v) → ls[j]? = some (.val (ax_v G v))
def ax_c2 : Option Value → Bool
  | some (.long _) => true
  | some (.double _) => true
  | _ => false
/-- a value of one slot is stored -/
def ax_st1 : List (Option Value) → Nat → Value → List (Option Value)
  | [], _, _ => []
  | _ :: t, 0, v => some v :: t
  | o :: [], _ + 1, _ => [o]
  | o :: _ :: t, 1, v => (match ax_c2 o with | true => none | false => o) :: some v :: t
  | o :: a :: t, n + 2, v => o :: ax_st1 (a :: t) (n + 1) v
/-- a value of two slots is stored -/
def ax_st2 : List (Option Value) → Nat → Value → List (Option Value)
  | [], _, _ => []
  | o :: [], _, _ => [o]
  | _ :: _ :: t, 0, v => some v :: none :: t
  | o :: b :: t, 1, v => (match ax_c2 o with | true => none | false => o) :: ax_st2 (b :: t) 0 v
  | o :: a :: t, n + 2, v => o :: ax_st2 (a :: t) (n + 1) v
/-- the locals at a method's entry -/
def ax_in : Nat → List Value → List (Option Value)
  | 0, _ => []
  | n + 1, [] => none :: ax_in n []
  | 1, v :: _ => [some v]
  | n + 2, v :: vs => match ax_c2 (some v) with
    | true => some v :: none :: ax_in n vs
    | false => some v :: ax_in (n + 1) vs
/-- which returns may give which answers -/
def ax_ret (ret : Option FieldType) (i : Instr) (r : Option Value) : Prop :=
  (∃ x : Int32, r = some (.int x) ∧ i = .ireturn ∧ (ret = some .int ∨ (ret = some .boolean ∧ (x = 0 ∨ x = 1)))) ∨
  (∃ x : Int64, r = some (.long x) ∧ i = .lreturn ∧ ret = some .long) ∨
  (∃ (k : Nat) (C : String), r = some (.ref k) ∧ i = .areturn ∧ ret = some (.object C)) ∨
  (r = none ∧ i = .return_ ∧ ret = none)
/-- the tables of the law's three wrappers; all other methods have none -/
def ax_hh (n : String) : List (Nat × Nat × Nat × Nat) := if n = "cost" then [(0, 9, 12, 13)] else if n = "newcomer" then [(0, 18, 21, 13)] else [(0, 10, 13, 13)]
abbrev ax_wn (y : MethodName) : Prop := y.cls = "LostRoadsLaw" ∧ (y.name = "cost" ∨ y.name = "newcomer" ∨ y.name = "swept")
def ax_tb (y : MethodName) (c : Code) : Prop := (ax_wn y → c.exceptionTable.toList = tableOf (ax_hh y.name)) ∧ (¬ ax_wn y → c.exceptionTable.toList = [])
def ax_nc : Cond → Bool
  | .code y _ _ _ => !decide (ax_wn y)
  | _ => true
theorem ax_nca : lw_tbl.all ax_nc = true := by decide +kernel
def ax_C (G : ax_G) (d : Nat) (M : ax_M) (p : Program) (R : Room) (s : State) (m : MethodId) (meth : Method) (c : Code) : Prop :=
  p.tables.exec = Jvm.exec ∧ c.code = M.2.1 ∧ c.maxLocals = M.2.2.1 ∧ s.vm.findClass M.1.cls = some m.cls ∧ (gs G).WarmedH s.vm ∧ d ≤ R.frames ∧ 64 * d ≤ R.locals ∧ meth.name = M.1.name ∧ meth.locks = false ∧ (gs G).heap.size ≤ s.heap.size ∧ ax_tb M.1 c
/-- what the end owes: at a return, at a throw -/
def ax_End (G : ax_G) (M : ax_M) (p : Program) (e : Env) (R : Room) (s : State) (m : MethodId) (args : Array Value) (below : List Frame) (meth : Method) (c : Code) (n0 s0 : Nat) (o : ax_O) (h : ax_H) (Qf : State → Prop) : Prop :=
  match o with
  | .inl r => ∀ (H : Heap) (locs : List Loc) (pc : Nat) (ls : Array Slot) (i : Instr), ax_R G h H → (∀ q ∈ locs, (gs G).heap.size ≤ q.base) → ax_ret M.2.2.2 i r → decode M.2.1 pc = .ok (i, 1) →
      W p (gl G) e R s m args below meth c H locs (h.1 - n0) (h.2.1 - s0) Qf (F0 m pc ls ((r.map (ax_v G)).toList))
  | .inr k => ∀ (U : State) (ce : Cell) (locs : List Loc), ax_R G h U.heap → (∀ q ∈ locs, (gs G).heap.size ≤ q.base) → U.status = .running → Ended U below (.threw (ax_r G k)) → s.WarmedH U.vm →
      U.heap[ax_r G k]? = some ce → ce.vm = .none → s.vm.findClass "java/util/NoSuchElementException" = some ce.cls → s.sameButNew ({ U with vm := s.vm } : State) locs (h.1 - n0) (h.2.1 - s0) → Qf U
/-- from here the method comes to its end, with Q -/
def ax_X (old : ax_G → Prop) (G : ax_G) (d : Nat) (M : ax_M) (pc : Nat) (lv : List (Option Value)) (st : List Value) (h : ax_H) (Q : ax_O → ax_H → Prop) : Prop :=
  ∃ (o : ax_O) (h' : ax_H), Q o h' ∧ h.1 ≤ h'.1 ∧ h.2.1 ≤ h'.2.1 ∧ (ax_ok G old → ∀ (p : Program) (e : Env) (R : Room) (s : State) (m : MethodId) (args : Array Value) (below : List Frame) (meth : Method) (c : Code), ax_C G d M p R s m meth c →
    ∀ (n0 s0 : Nat), n0 ≤ h.1 → s0 ≤ h.2.1 → h'.1 - n0 ≤ R.cells → h'.2.1 - s0 ≤ R.slots → ∀ Qf : State → Prop, ax_End G M p e R s m args below meth c n0 s0 o h' Qf →
    ∀ (H : Heap) (locs : List Loc) (ls : Array Slot), ax_R G h H → (∀ q ∈ locs, (gs G).heap.size ≤ q.base) → ax_L G ls lv →
    W p (gl G) e R s m args below meth c H locs (h.1 - n0) (h.2.1 - s0) Qf (F0 m pc ls (st.map (ax_v G))))
theorem ax_w {G : ax_G} {old : ax_G → Prop} (ok : ax_ok G old) {s : State} (hW : (gs G).WarmedH s.vm) {w : Cond} (hw : ax_g w) (args : Array Value) : w.before args s = true := by
  obtain ⟨a0, h0⟩ := ok.1
  exact word_at hW (good_of_word hw.2) (h0 w hw.1)
section AM
variable {old : ax_G → Prop} {G : ax_G} {d : Nat} {M : ax_M} {pc : Nat} {lv : List (Option Value)} {st : List Value} {h : ax_H} {Q : ax_O → ax_H → Prop}
/-- a step that changes neither heap nor locals -/
theorem ax_go {pc' : Nat} {st' : List Value} (hk : ∀ (p : Program) (e : Env) (R : Room) (s : State) (m : MethodId) (args : Array Value) (below : List Frame) (meth : Method) (c : Code) (H : Heap) (locs : List Loc) (cells slots : Nat) (Qf : State → Prop) (ls : Array Slot), ax_ok G old → ax_C G d M p R s m meth c → ax_L G ls lv → ax_R G h H →
      W p (gl G) e R s m args below meth c H locs cells slots Qf (F0 m pc' ls (st'.map (ax_v G))) → W p (gl G) e R s m args below meth c H locs cells slots Qf (F0 m pc ls (st.map (ax_v G))))
    (k : ax_X old G d M pc' lv st' h Q) : ax_X old G d M pc lv st h Q := by
  obtain ⟨o, h', hq, h1, h2, k⟩ := k
  exact ⟨o, h', hq, h1, h2, fun ok p e R s m args below meth c C n0 s0 g1 g2 g3 g4 Qf hE H locs ls hR hl hL => hk p e R s m args below meth c H locs _ _ Qf ls ok C hL hR (k ok p e R s m args below meth c C n0 s0 g1 g2 g3 g4 Qf hE H locs ls hR hl hL)⟩
theorem ax_L.at {ls : Array Slot} (hL : ax_L G ls lv) {j : Nat} {v : Value} (hj : lv[j]? = some (some v)) : ls[j]? = some (.val (ax_v G v)) := hL.2.2 j v hj
theorem ax_aload_n {k : Fin 4} {r : Nat} (hd : decode M.2.1 pc = .ok (.aload_n k, 1)) (hl : lv[(k : Nat)]? = some (some (.ref r))) (kk : ax_X old G d M (pc + 1) lv (.ref r :: st) h Q) : ax_X old G d M pc lv st h Q :=
  ax_go (fun _ _ _ _ _ _ _ _ _ _ _ _ _ _ _ _ C hL _ w => lv_aload_n C.1 C.2.1 hd rfl (hL.at hl) w) kk
theorem ax_aload {i r : Nat} (hd : decode M.2.1 pc = .ok (.aload i, 2)) (hl : lv[i]? = some (some (.ref r))) (kk : ax_X old G d M (pc + 2) lv (.ref r :: st) h Q) : ax_X old G d M pc lv st h Q :=
  ax_go (fun _ _ _ _ _ _ _ _ _ _ _ _ _ _ _ _ C hL _ w => lv_aload C.1 C.2.1 hd (hL.at hl) w) kk
theorem ax_iload_n {k : Fin 4} {x : Int32} (hd : decode M.2.1 pc = .ok (.iload_n k, 1)) (hl : lv[(k : Nat)]? = some (some (.int x))) (kk : ax_X old G d M (pc + 1) lv (.int x :: st) h Q) : ax_X old G d M pc lv st h Q :=
  ax_go (fun _ _ _ _ _ _ _ _ _ _ _ _ _ _ _ _ C hL _ w => lv_iload_n C.1 C.2.1 hd rfl (hL.at hl) w) kk
theorem ax_iload {i : Nat} {x : Int32} (hd : decode M.2.1 pc = .ok (.iload i, 2)) (hl : lv[i]? = some (some (.int x))) (kk : ax_X old G d M (pc + 2) lv (.int x :: st) h Q) : ax_X old G d M pc lv st h Q :=
  ax_go (fun _ _ _ _ _ _ _ _ _ _ _ _ _ _ _ _ C hL _ w => lv_iload C.1 C.2.1 hd (hL.at hl) w) kk
theorem ax_lload_n {k : Fin 4} {x : Int64} (hd : decode M.2.1 pc = .ok (.lload_n k, 1)) (hl : lv[(k : Nat)]? = some (some (.long x))) (kk : ax_X old G d M (pc + 1) lv (.long x :: st) h Q) : ax_X old G d M pc lv st h Q :=
  ax_go (fun _ _ _ _ _ _ _ _ _ _ _ _ _ _ _ _ C hL _ w => lv_lload_n C.1 C.2.1 hd rfl (hL.at hl) w) kk
theorem ax_lload {i : Nat} {x : Int64} (hd : decode M.2.1 pc = .ok (.lload i, 2)) (hl : lv[i]? = some (some (.long x))) (kk : ax_X old G d M (pc + 2) lv (.long x :: st) h Q) : ax_X old G d M pc lv st h Q :=
  ax_go (fun _ _ _ _ _ _ _ _ _ _ _ _ _ _ _ _ C hL _ w => lv_lload C.1 C.2.1 hd (hL.at hl) w) kk
theorem ax_iconst {n : Int} {v : Int32} (hd : decode M.2.1 pc = .ok (.iconst n, 1)) (hv : Int32.ofInt n = v) (kk : ax_X old G d M (pc + 1) lv (.int v :: st) h Q) : ax_X old G d M pc lv st h Q :=
  ax_go (fun _ _ _ _ _ _ _ _ _ _ _ _ _ _ _ _ C hL _ w => lv_iconst C.1 C.2.1 hd hv w) kk
theorem ax_bipush {n : Int} {v : Int32} (hd : decode M.2.1 pc = .ok (.bipush n, 2)) (hv : (Int8.ofInt n).toInt32 = v) (kk : ax_X old G d M (pc + 2) lv (.int v :: st) h Q) : ax_X old G d M pc lv st h Q :=
  ax_go (fun _ _ _ _ _ _ _ _ _ _ _ _ _ _ _ _ C hL _ w => lv_bipush C.1 C.2.1 hd hv w) kk
theorem ax_sipush {n : Int} {v : Int32} (hd : decode M.2.1 pc = .ok (.sipush n, 3)) (hv : (Int16.ofInt n).toInt32 = v) (kk : ax_X old G d M (pc + 3) lv (.int v :: st) h Q) : ax_X old G d M pc lv st h Q :=
  ax_go (fun _ _ _ _ _ _ _ _ _ _ _ _ _ _ _ _ C hL _ w => lv_sipush C.1 C.2.1 hd hv w) kk
theorem ax_lconst {n : Fin 2} {v : Int64} (hd : decode M.2.1 pc = .ok (.lconst n, 1)) (hv : Int64.ofNat (n : Nat) = v) (kk : ax_X old G d M (pc + 1) lv (.long v :: st) h Q) : ax_X old G d M pc lv st h Q :=
  ax_go (fun _ _ _ _ _ _ _ _ _ _ _ _ _ _ _ _ C hL _ w => lv_lconst C.1 C.2.1 hd hv w) kk
theorem ax_ldc {i : Nat} {v : Int32} (hd : decode M.2.1 pc = .ok (.ldc i, 2)) (hw : ax_g (.constant M.1.cls i v)) (kk : ax_X old G d M (pc + 2) lv (.int v :: st) h Q) : ax_X old G d M pc lv st h Q :=
  ax_go (fun _ _ _ _ _ _ _ _ _ _ _ _ _ _ _ ok C hL _ w => lv_ldc C.1 C.2.1 C.2.2.2.1 (ax_w ok C.2.2.2.2.1 hw _) hd w) kk
theorem ax_ldcw {i : Nat} {v : Int32} (hd : decode M.2.1 pc = .ok (.ldc_w i, 3)) (hw : ax_g (.constant M.1.cls i v)) (kk : ax_X old G d M (pc + 3) lv (.int v :: st) h Q) : ax_X old G d M pc lv st h Q :=
  ax_go (fun _ _ _ _ _ _ _ _ _ _ _ _ _ _ _ ok C hL _ w => lv_ldcw C.1 C.2.1 C.2.2.2.1 (ax_w ok C.2.2.2.2.1 hw _) hd w) kk
theorem ax_ldc2 {i : Nat} {v : Int64} (hd : decode M.2.1 pc = .ok (.ldc2_w i, 3)) (hw : ax_g (.constantLong M.1.cls i v)) (kk : ax_X old G d M (pc + 3) lv (.long v :: st) h Q) : ax_X old G d M pc lv st h Q :=
  ax_go (fun _ _ _ _ _ _ _ _ _ _ _ _ _ _ _ ok C hL _ w => lv_ldc2 C.1 C.2.1 C.2.2.2.1 (ax_w ok C.2.2.2.2.1 hw _) hd w) kk
end AM
