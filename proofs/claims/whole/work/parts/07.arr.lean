/-! ===== AM: rules of arrays ===== -/
def ax_ix (i : Int32) (n j : Nat) : Prop := ¬ i < 0 ∧ i.toNatClampNeg = j ∧ j < n
theorem ax_ix_nI {n j : Nat} (h : j < n) (hn : n < 2 ^ 31) : ax_ix (nI j) n j := ⟨nI_pos (by omega), nI_clamp (by omega), h⟩
theorem ax_ix_in {i : Int32} {n j : Nat} (h : ax_ix i n j) : ¬ (i < 0 ∨ n ≤ i.toNatClampNeg) := by
  obtain ⟨h1, h2, h3⟩ := h
  rintro (q | q)
  · exact h1 q
  · omega
section AMA
variable {old : ax_G → Prop} {G : ax_G} {d : Nat} {M : ax_M} {pc : Nat} {lv : List (Option Value)} {st : List Value} {h : ax_H} {Q : ax_O → ax_H → Prop}
theorem ax_at {ty : FieldType} {ok : ax_ok G old} (hty : ty ∈ ax_tys) {s : State} (hW : (gs G).WarmedH s.vm) : ArrOfT s (gt G ty) ty := arrOfT_moved hW.alike (ok.2.2.1 ty hty).1
theorem ax_cell {H : Heap} {r : Nat} {ty : FieldType} {a : vp_A} (hR : ax_R G h H) (he : h.2.2 r = some (.inl (ty, a))) : H[ax_r G r]? = some (vp_cell (gt G ty) (ax_a G a)) := (hR.2.2.2 r _ he).2.2
theorem ax_base {H : Heap} {r : Nat} {e : ax_E} (hR : ax_R G h H) (he : h.2.2 r = some e) : (gs G).heap.size ≤ ax_r G r := by
  rw [ax_r_new (hR.2.2.2 r _ he).1]
  omega
theorem ax_locs {H : Heap} {r k : Nat} {e : ax_E} {locs : List Loc} (hR : ax_R G h H) (he : h.2.2 r = some e) (hl : ∀ q ∈ locs, (gs G).heap.size ≤ q.base) : ∀ q ∈ locs ++ [(⟨ax_r G r, k⟩ : Loc)], (gs G).heap.size ≤ q.base := fun z hz => by
  rcases List.mem_append.mp hz with h0 | h0
  · exact hl z h0
  · rw [List.mem_singleton.mp h0]
    exact ax_base hR he
theorem ax_iald {r n j : Nat} {f : Nat → Int32} {i : Int32} (hd : decode M.2.1 pc = .ok (.iaload, 1)) (he : h.2.2 r = some (.inl (.int, n, .inl f))) (hi : ax_ix i n j) (kk : ax_X old G d M (pc + 1) lv (.int (f j) :: st) h Q) : ax_X old G d M pc lv (.int i :: .ref r :: st) h Q := by
  refine ax_go (st := .int i :: .ref r :: st) (st' := .int (f j) :: st) (fun p e R s m args below meth c H locs cells slots Qf ls ok C hL hR w => ?_) kk
  exact W.iald (v := .int (f j)) C.1 C.2.1 (ax_cell hR he) (ax_at (ok := ok) (by decide) C.2.2.2.2.1 n (fun j => .int (f j))) (fun q => by cases q) (by show ¬ (i < 0 ∨ (arrV _ _ _).slots.size ≤ _); rw [arrV_size]; exact ax_ix_in hi) (by show (arrV _ n _).slots[_]? = _; rw [hi.2.1, arrV_read _ _ hi.2.2]) rfl rfl hd w
theorem ax_lald {r n j : Nat} {f : Nat → Int64} {i : Int32} (hd : decode M.2.1 pc = .ok (.laload, 1)) (he : h.2.2 r = some (.inl (.long, n, .inr (.inl f)))) (hi : ax_ix i n j) (kk : ax_X old G d M (pc + 1) lv (.long (f j) :: st) h Q) : ax_X old G d M pc lv (.int i :: .ref r :: st) h Q := by
  refine ax_go (st := .int i :: .ref r :: st) (st' := .long (f j) :: st) (fun p e R s m args below meth c H locs cells slots Qf ls ok C hL hR w => ?_) kk
  exact W.lald (v := .long (f j)) C.1 C.2.1 (ax_cell hR he) (ax_at (ok := ok) (by decide) C.2.2.2.2.1 n (fun j => .long (f j))) (fun q => by cases q) (by show ¬ (i < 0 ∨ (arrV _ _ _).slots.size ≤ _); rw [arrV_size]; exact ax_ix_in hi) (by show (arrV _ n _).slots[_]? = _; rw [hi.2.1, arrV_read _ _ hi.2.2]) rfl rfl hd w
theorem ax_bald {r n j : Nat} {f : Nat → Int32} {i : Int32} (hd : decode M.2.1 pc = .ok (.baload, 1)) (he : h.2.2 r = some (.inl (.byte, n, .inl f))) (hi : ax_ix i n j) (kk : ax_X old G d M (pc + 1) lv (.int (f j) :: st) h Q) : ax_X old G d M pc lv (.int i :: .ref r :: st) h Q := by
  refine ax_go (st := .int i :: .ref r :: st) (st' := .int (f j) :: st) (fun p e R s m args below meth c H locs cells slots Qf ls ok C hL hR w => ?_) kk
  exact W.bald (v := .int (f j)) C.1 C.2.1 (ax_cell hR he) (ax_at (ok := ok) (by decide) C.2.2.2.2.1 n (fun j => .int (f j))) (fun q => by cases q) (by show ¬ (i < 0 ∨ (arrV _ _ _).slots.size ≤ _); rw [arrV_size]; exact ax_ix_in hi) (by show (arrV _ n _).slots[_]? = _; rw [hi.2.1, arrV_read _ _ hi.2.2]) rfl rfl hd w
theorem ax_zald {r n j : Nat} {f : Nat → Int32} {i : Int32} (hd : decode M.2.1 pc = .ok (.baload, 1)) (he : h.2.2 r = some (.inl (.boolean, n, .inl f))) (hi : ax_ix i n j) (kk : ax_X old G d M (pc + 1) lv (.int (f j) :: st) h Q) : ax_X old G d M pc lv (.int i :: .ref r :: st) h Q := by
  refine ax_go (st := .int i :: .ref r :: st) (st' := .int (f j) :: st) (fun p e R s m args below meth c H locs cells slots Qf ls ok C hL hR w => ?_) kk
  exact W.zald (v := .int (f j)) C.1 C.2.1 (ax_cell hR he) (ax_at (ok := ok) (by decide) C.2.2.2.2.1 n (fun j => .int (f j))) (fun q => by cases q) (by show ¬ (i < 0 ∨ (arrV _ _ _).slots.size ≤ _); rw [arrV_size]; exact ax_ix_in hi) (by show (arrV _ n _).slots[_]? = _; rw [hi.2.1, arrV_read _ _ hi.2.2]) rfl rfl hd w
theorem ax_va_rf (G : ax_G) (o : Option Nat) : ax_v G (va_rf o) = va_rf (o.map (ax_r G)) := by cases o <;> rfl
theorem ax_aald {r n j : Nat} {C : String} {f : Nat → Option Nat} {i : Int32} (hd : decode M.2.1 pc = .ok (.aaload, 1)) (he : h.2.2 r = some (.inl (.object C, n, .inr (.inr (.inr (.inr f)))))) (hC : FieldType.object C ∈ ax_tys) (hi : ax_ix i n j) {v : Value} (hv : va_rf (f j) = v) (kk : ax_X old G d M (pc + 1) lv (v :: st) h Q) : ax_X old G d M pc lv (.int i :: .ref r :: st) h Q := by
  subst hv
  refine ax_go (st := .int i :: .ref r :: st) (st' := va_rf (f j) :: st) (fun p e R s m args below meth c H locs cells slots Qf ls ok C hL hR w => ?_) kk
  rw [List.map_cons, ax_va_rf] at w
  exact W.aald (v := va_rf ((f j).map (ax_r G))) C.1 C.2.1 (ax_cell hR he) (ax_at (ok := ok) hC C.2.2.2.2.1 n (fun j => va_rf ((f j).map (ax_r G)))) rfl (fun q => by cases q) (by show ¬ (i < 0 ∨ (arrV _ _ _).slots.size ≤ _); rw [arrV_size]; exact ax_ix_in hi) (by show (arrV _ n _).slots[_]? = _; rw [hi.2.1, arrV_read _ _ hi.2.2]) rfl rfl hd w
theorem ax_iast {r n j : Nat} {f : Nat → Int32} {i x : Int32} (hd : decode M.2.1 pc = .ok (.iastore, 1)) (he : h.2.2 r = some (.inl (.int, n, .inl f))) (hi : ax_ix i n j) (kk : ax_X old G d M (pc + 1) lv st (ax_wr h r (.inl (.int, n, .inl (upd f j x)))) Q) : ax_X old G d M pc lv (.int x :: .int i :: .ref r :: st) h Q := by
  refine ax_goH (st := .int x :: .int i :: .ref r :: st) (st' := st) (h1 := ax_wr h r (.inl (.int, n, .inl (upd f j x)))) rfl rfl (fun p e R s m args below meth c H locs cells slots Qf ls ok C hL hR hlc w => ?_) kk
  refine W.iast C.1 C.2.1 (ax_cell hR he) (ax_at (ok := ok) (by decide) C.2.2.2.2.1 n (fun j => .int (f j))) (fun q => by cases q) (by show ¬ (i < 0 ∨ (arrV _ _ _).slots.size ≤ _); rw [arrV_size]; exact ax_ix_in hi) rfl rfl hd fun H1 e1 z oq => ?_
  refine w H1 _ (hR.wr he ?_ z oq) (ax_locs hR he hlc)
  show H1[_]? = some (vp_cell _ _)
  rw [e1]
  show some ((arrV (gt G .int) n (fun y => .int (f y))).setSlot i.toNatClampNeg (.int x)) = some (arrV (gt G .int) n (fun y => .int (upd f j x y)))
  rw [arrV_store, hi.2.1]
  congr 2
  funext q
  by_cases hq : q = j
  · subst hq
    simp [updV, upd]
  · simp [updV, upd, hq]
theorem ax_last {r n j : Nat} {f : Nat → Int64} {i : Int32} {x : Int64} (hd : decode M.2.1 pc = .ok (.lastore, 1)) (he : h.2.2 r = some (.inl (.long, n, .inr (.inl f)))) (hi : ax_ix i n j) (kk : ax_X old G d M (pc + 1) lv st (ax_wr h r (.inl (.long, n, .inr (.inl (vp_updL f j x))))) Q) : ax_X old G d M pc lv (.long x :: .int i :: .ref r :: st) h Q := by
  refine ax_goH (st := .long x :: .int i :: .ref r :: st) (st' := st) (h1 := ax_wr h r (.inl (.long, n, .inr (.inl (vp_updL f j x))))) rfl rfl (fun p e R s m args below meth c H locs cells slots Qf ls ok C hL hR hlc w => ?_) kk
  refine W.last C.1 C.2.1 (ax_cell hR he) (ax_at (ok := ok) (by decide) C.2.2.2.2.1 n (fun j => .long (f j))) (fun q => by cases q) (by show ¬ (i < 0 ∨ (arrV _ _ _).slots.size ≤ _); rw [arrV_size]; exact ax_ix_in hi) rfl rfl hd fun H1 e1 z oq => ?_
  refine w H1 _ (hR.wr he ?_ z oq) (ax_locs hR he hlc)
  show H1[_]? = some (vp_cell _ _)
  rw [e1]
  show some ((arrV (gt G .long) n (fun y => .long (f y))).setSlot i.toNatClampNeg (.long x)) = some (arrV (gt G .long) n (fun y => .long (vp_updL f j x y)))
  rw [arrV_store, hi.2.1]
  congr 2
  funext q
  by_cases hq : q = j
  · subst hq
    simp [updV, vp_updL]
  · simp [updV, vp_updL, hq]
theorem ax_bast {r n j : Nat} {f : Nat → Int32} {i x : Int32} (hd : decode M.2.1 pc = .ok (.bastore, 1)) (he : h.2.2 r = some (.inl (.byte, n, .inl f))) (hi : ax_ix i n j) (kk : ax_X old G d M (pc + 1) lv st (ax_wr h r (.inl (.byte, n, .inl (upd f j x.toInt8.toInt32)))) Q) : ax_X old G d M pc lv (.int x :: .int i :: .ref r :: st) h Q := by
  refine ax_goH (st := .int x :: .int i :: .ref r :: st) (st' := st) (h1 := ax_wr h r (.inl (.byte, n, .inl (upd f j x.toInt8.toInt32)))) rfl rfl (fun p e R s m args below meth c H locs cells slots Qf ls ok C hL hR hlc w => ?_) kk
  refine W.bast C.1 C.2.1 (ax_cell hR he) (ax_at (ok := ok) (by decide) C.2.2.2.2.1 n (fun j => .int (f j))) (fun q => by cases q) (by show ¬ (i < 0 ∨ (arrV _ _ _).slots.size ≤ _); rw [arrV_size]; exact ax_ix_in hi) rfl rfl hd fun H1 e1 z oq => ?_
  refine w H1 _ (hR.wr he ?_ z oq) (ax_locs hR he hlc)
  show H1[_]? = some (vp_cell _ _)
  rw [e1]
  show some ((arrV (gt G .byte) n (fun y => .int (f y))).setSlot i.toNatClampNeg (narrow .byte (.int x))) = some (arrV (gt G .byte) n (fun y => .int (upd f j x.toInt8.toInt32 y)))
  rw [arrV_store, hi.2.1]
  congr 2
  funext q
  by_cases hq : q = j
  · subst hq
    simp [updV, upd, narrow_byte]
  · simp [updV, upd, hq]
theorem ax_zast {r n j : Nat} {f : Nat → Int32} {i x : Int32} (hd : decode M.2.1 pc = .ok (.bastore, 1)) (he : h.2.2 r = some (.inl (.boolean, n, .inl f))) (hi : ax_ix i n j) (hx : narrow .boolean (.int x) = .int x) (kk : ax_X old G d M (pc + 1) lv st (ax_wr h r (.inl (.boolean, n, .inl (upd f j x)))) Q) : ax_X old G d M pc lv (.int x :: .int i :: .ref r :: st) h Q := by
  refine ax_goH (st := .int x :: .int i :: .ref r :: st) (st' := st) (h1 := ax_wr h r (.inl (.boolean, n, .inl (upd f j x)))) rfl rfl (fun p e R s m args below meth c H locs cells slots Qf ls ok C hL hR hlc w => ?_) kk
  refine W.zast C.1 C.2.1 (ax_cell hR he) (ax_at (ok := ok) (by decide) C.2.2.2.2.1 n (fun j => .int (f j))) (fun q => by cases q) (by show ¬ (i < 0 ∨ (arrV _ _ _).slots.size ≤ _); rw [arrV_size]; exact ax_ix_in hi) rfl rfl hd fun H1 e1 z oq => ?_
  refine w H1 _ (hR.wr he ?_ z oq) (ax_locs hR he hlc)
  show H1[_]? = some (vp_cell _ _)
  rw [e1, hx]
  show some ((arrV (gt G .boolean) n (fun y => .int (f y))).setSlot i.toNatClampNeg (.int x)) = some (arrV (gt G .boolean) n (fun y => .int (upd f j x y)))
  rw [arrV_store, hi.2.1]
  congr 2
  funext q
  by_cases hq : q = j
  · subst hq
    simp [updV, upd]
  · simp [updV, upd, hq]
theorem ax_alen {r : Nat} {ty : FieldType} {a : vp_A} {v : Int32} (hd : decode M.2.1 pc = .ok (.arraylength, 1)) (he : h.2.2 r = some (.inl (ty, a))) (hty : ty ∈ ax_tys) (hv : Int32.ofNat a.1 = v) (kk : ax_X old G d M (pc + 1) lv (.int v :: st) h Q) : ax_X old G d M pc lv (.ref r :: st) h Q := by
  subst hv
  refine ax_go (st := .ref r :: st) (st' := .int (Int32.ofNat a.1) :: st) (fun p e R s m args below meth c H locs cells slots Qf ls ok C hL hR w => ?_) kk
  have hc := ax_cell hR he
  have ha := ax_at (ok := ok) hty C.2.2.2.2.1
  obtain ⟨n, f | f | f | f | f⟩ := a
  · exact W.alen (n := Int32.ofNat n) C.1 C.2.1 hc (ha n (fun j => .int (f j))) (by show (arrV _ _ _).slots.size.toInt32 = _; rw [arrV_size] <;> rfl) rfl rfl hd w
  · exact W.alen (n := Int32.ofNat n) C.1 C.2.1 hc (ha n (fun j => .long (f j))) (by show (arrV _ _ _).slots.size.toInt32 = _; rw [arrV_size] <;> rfl) rfl rfl hd w
  · exact W.alen (n := Int32.ofNat n) C.1 C.2.1 hc (ha n (fun j => .float (f j))) (by show (arrV _ _ _).slots.size.toInt32 = _; rw [arrV_size] <;> rfl) rfl rfl hd w
  · exact W.alen (n := Int32.ofNat n) C.1 C.2.1 hc (ha n (fun j => .double (f j))) (by show (arrV _ _ _).slots.size.toInt32 = _; rw [arrV_size] <;> rfl) rfl rfl hd w
  · exact W.alen (n := Int32.ofNat n) C.1 C.2.1 hc (ha n (fun j => va_rf ((f j).map (ax_r G)))) (by show (arrV _ _ _).slots.size.toInt32 = _; rw [arrV_size] <;> rfl) rfl rfl hd w
theorem ax_newa {atype : ArrayType} {ty : FieldType} {n : Int32} {N : Nat} {a0 : vp_A} (hd : decode M.2.1 pc = .ok (.newarray atype, 2)) (hty : newarray.typeOf atype = ty) (hm : ty ∈ ax_tys) (hw : ax_g (.arrayClass ty)) (hpr : ∀ s cA, va_RA s cA ty → s.vm.findClass ("[" ++ ty.toString) = some cA) (hn : ¬ n < 0) (hN : n.toNatClampNeg = N) (hbytes : N * componentBytes ty ≤ 536870912) (ha : ∀ (G : ax_G) (cA : ClassId), vp_cell cA (ax_a G a0) = arrV cA N (fun _ => defaultValue ty)) (kk : ax_X old G d M (pc + 2) lv (.ref h.1 :: st) (ax_al h N (.inl (ty, a0))) Q) : ax_X old G d M pc lv (.int n :: st) h Q := by
  subst hty
  refine ax_goA (sz := N) (st := .int n :: st) (st' := .ref h.1 :: st) (h1 := ax_al h N (.inl (newarray.typeOf atype, a0))) rfl rfl (fun p e R s m args below meth c H locs cells slots Qf ls ok C hL hR hc1 hc2 w => ?_) kk
  have hW := C.2.2.2.2.1
  refine va_newaK C.1 C.2.1 (ax_w ok hW hw args) rfl hd rfl hn hN hbytes hc1 hc2 rfl fun H1 cA e1 z1 o1 hAr hNm => ?_
  have hcA : cA = gt G (newarray.typeOf atype) := Option.some.inj (hNm.symm.trans (hpr s _ ((ok.2.2.1 _ hm).2.moved hW.alike)))
  subst hcA
  have := w H1 (hR.al (e := .inl (newarray.typeOf atype, a0)) (by show H1[_]? = some (vp_cell _ _); rw [ha]; exact e1) z1 o1)
  rw [List.map_cons, show ax_v G (.ref h.1) = .ref H.size by show Value.ref _ = _; rw [ax_r_next hR]] at this
  exact this
theorem ax_anew {idx : Nat} {Cn : String} {n : Int32} {N : Nat} (hd : decode M.2.1 pc = .ok (.anewarray idx, 3)) (hm : FieldType.object Cn ∈ ax_tys) (w1 : ax_g (.classLink M.1.cls idx Cn)) (w2 : (.arrayOver (.object Cn)) ∈ lw_tbl) (hn : ¬ n < 0) (hN : n.toNatClampNeg = N) (hbytes : N * 4 ≤ 536870912) (kk : ax_X old G d M (pc + 3) lv (.ref h.1 :: st) (ax_al h N (.inl (.object Cn, N, .inr (.inr (.inr (.inr (fun _ => none))))))) Q) : ax_X old G d M pc lv (.int n :: st) h Q := by
  subst hN
  refine ax_goA (sz := n.toNatClampNeg) (st := .int n :: st) (st' := .ref h.1 :: st) (h1 := ax_al h n.toNatClampNeg (.inl (.object Cn, n.toNatClampNeg, .inr (.inr (.inr (.inr (fun _ => none))))))) rfl rfl (fun p e R s m args below meth c H locs cells slots Qf ls ok C hL hR hc1 hc2 w => ?_) kk
  have hW := C.2.2.2.2.1
  have hAO : va_AO Cn s := by
    obtain ⟨a0, h0⟩ := ok.1
    exact va_AO.moved hW.alike (va_AO.of (h0 _ w2))
  refine W.anew C.1 C.2.1 C.2.2.2.1 (ax_w ok hW w1 args) (va_AO.use hAO) rfl hd rfl hn hbytes hc1 hc2 fun cA kA comp f1 f2 f3 f4 => ?_
  obtain ⟨kA', comp', g1, g2, g3, g4⟩ := (ok.2.2.1 _ hm).2.moved hW.alike
  have hcA : cA = gt G (.object Cn) := Option.some.inj (f1.symm.trans g4)
  subst hcA
  have := w _ (hR.al (e := .inl (.object Cn, n.toNatClampNeg, .inr (.inr (.inr (.inr (fun _ => none)))))) (H1 := H.push ({ cls := gt G (.object Cn), slots := Array.replicate n.toNatClampNeg .null, vm := .none } : Cell)) (by
    show (H.push _)[H.size]? = some (vp_cell _ _)
    rw [Array.getElem?_push_size, arrV_new]
    rfl) (by rw [Array.size_push]) (fun q hq => by rw [Array.getElem?_push, if_neg (Nat.ne_of_lt hq)]))
  rw [List.map_cons, show ax_v G (.ref h.1) = .ref H.size by show Value.ref _ = _; rw [ax_r_next hR]] at this
  exact this
/-- an object of the heap into an array of its class -/
theorem ax_aast {r n j k ci : Nat} {q : vw_C} {fs : List Value} {f : Nat → Option Nat} {i : Int32} (hd : decode M.2.1 pc = .ok (.aastore, 1)) (he : h.2.2 r = some (.inl (.object q.1, n, .inr (.inr (.inr (.inr f)))))) (hm : FieldType.object q.1 ∈ ax_tys) (hi : ax_ix i n j) (hk : h.2.2 k = some (.inr (ci, fs))) (hq : vwCl[ci]? = some q) (kk : ax_X old G d M (pc + 1) lv st (ax_wr h r (.inl (.object q.1, n, .inr (.inr (.inr (.inr (va_up f j (some k)))))))) Q) : ax_X old G d M pc lv (.ref k :: .int i :: .ref r :: st) h Q := by
  refine ax_goH (st := .ref k :: .int i :: .ref r :: st) (st' := st) (h1 := ax_wr h r (.inl (.object q.1, n, .inr (.inr (.inr (.inr (va_up f j (some k)))))))) rfl rfl (fun p e R s m args below meth c H locs cells slots Qf ls ok C hL hR hlc w => ?_) kk
  have hW := C.2.2.2.2.1
  obtain ⟨-, -, r', hr', cellV, g1, g2, g3, -⟩ := hR.2.2.2 k _ hk
  have hcls := (ax_kn ok hW hq).2
  obtain ⟨kA, comp, k1, k2, k3, -⟩ := (ok.2.2.1 _ hm).2.moved hW.alike
  have hcomp : comp = (gd G).1 ci := Option.some.inj (k3.symm.trans hcls.1)
  subst hcomp
  obtain ⟨kC, hkC, -⟩ := hcls.2
  refine W.aast C.1 C.2.1 (ax_cell hR he) (fun q h => by cases h) (fun h => by cases h) k1 k2 rfl hkC ⟨hi.1, by show _ < (arrV _ _ _).slots.size; rw [arrV_size, hi.2.1]; exact hi.2.2⟩ g1 (fun q h => by rw [g3] at h; cases h) (by rw [g2]; exact hkC) (by rw [g2]; exact va_assign hcls) rfl rfl hd fun H1 e1 z oq => ?_
  refine w H1 _ (hR.wr he ?_ z oq) (ax_locs hR he hlc)
  show H1[_]? = some (vp_cell _ _)
  rw [e1]
  show some ((arrV (gt G (.object q.1)) n (fun y => va_rf ((f y).map (ax_r G)))).setSlot i.toNatClampNeg (.ref (ax_r G k))) = some (arrV (gt G (.object q.1)) n (fun y => va_rf ((va_up f j (some k) y).map (ax_r G))))
  rw [arrV_store, hi.2.1]
  congr 2
  funext q
  by_cases hq : q = j
  · subst hq
    simp [updV, va_up, va_rf]
  · simp [updV, va_up, hq]
end AMA
