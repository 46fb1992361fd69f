/-! ===== AM: Math, arraycopy, and the old world (constants of Token, the switch's table, the script) ===== -/
def tk_nm : List String := ["END", "NOTHING", "NUMBER", "NAME", "OPEN", "CLOSE", "SEMICOLON", "LESS", "SAME", "PLUS", "MINUS", "TIMES", "AND", "OR", "NOT", "STUFF", "PLACE", "ROAD", "TRADE", "OF", "WAY", "SHOCK", "MEND", "LONG", "HOLES", "HARD", "SOFT", "LOAD", "BRITTLE", "LOST", "STRONG"]
def tk_ord : List Int32 := [0, 1, 2, 3, 4, 5, 6, 7, 8, 9, 10, 11, 12, 13, 14, 15, 16, 17, 18, 19, 20, 21, 22, 23, 24, 25, 26, 27, 28, 29, 30]
def tk_step : List Int32 := [-1, -1, -1, -1, -1, -1, -1, 11, 12, 13, 14, 15, 9, 10, -1, -1, -1, -1, -1, -1, -1, -1, -1, 0, 1, 2, 3, 4, 5, 6, 7]
def tk_level : List Int32 := [-1, -1, -1, -1, -1, -1, -1, 1, 1, 2, 2, 3, 0, 0, -1, -1, -1, -1, -1, -1, -1, -1, -1, -1, -1, -1, -1, -1, -1, -1, -1]
def tk_way : List Int32 := [0, 0, 0, 0, 0, 0, 0, 0, 0, 0, 0, 0, 0, 0, 0, 0, 0, 0, 0, 0, 0, 0, 0, 1, 1, 1, 1, 1, 0, 0, 0]
def tk_shock : List Int32 := [0, 0, 0, 0, 0, 0, 0, 0, 0, 0, 0, 0, 0, 0, 0, 0, 0, 0, 0, 0, 0, 0, 0, 1, 1, 1, 1, 0, 1, 0, 0]
def tk_mend : List Int32 := [0, 0, 0, 0, 0, 0, 0, 0, 0, 0, 0, 0, 0, 0, 0, 0, 0, 0, 0, 0, 0, 0, 0, 1, 1, 1, 1, 0, 1, 1, 1]
def tk_key : List Int64 := [0, 0, 0, 0, -40, -41, -59, -60, -61, -43, -45, -42, 1476, 498, 14836, 20600006, 17171557, 605220, 21562501, 486, 23609, 20200555, 431556, 409031, 8892595, 263748, 638164, 408612, 2761576837, 409204, 659111367]
def tk_sw : List Int32 := [0, 0, 0, 0, 0, 0, 0, 0, 0, 0, 0, 0, 0, 0, 0, 1, 2, 3, 4, 0, 5, 6, 7, 0, 0, 0, 0, 0, 0, 0, 0]
def tk_F : List (String × String × String × List Int32) := [("java/lang/Enum", "ordinal", "I", tk_ord), ("LostRoads$Token", "step", "I", tk_step), ("LostRoads$Token", "level", "I", tk_level), ("LostRoads$Token", "inWay", "Z", tk_way), ("LostRoads$Token", "inShock", "Z", tk_shock), ("LostRoads$Token", "inMend", "Z", tk_mend)]
abbrev ax_A (G : ax_G) : Nat → Prop := fun q => (gs G).heap.size ≤ q
/-- a row of the old world -/
def ax_row (G : ax_G) (a : Nat) (ty : FieldType) (n : Nat) (f : Nat → Value) : Prop := ∃ cell : Cell, (gs G).heap[a]? = some cell ∧ (gs G).isArrayOf cell ty ∧ cell.vm ≠ .unknown ∧ cell.slots.size = n ∧ ∀ j, j < n → cell.slots[j]? = some (f j)
def ax_old (G : ax_G) : Prop :=
  (∀ k, k < 34 → ga G k < (gs G).heap.size) ∧
  va_En "LostRoads$Token" "LLostRoads$Token;" tk_nm tk_F (ga G) (ax_A G) (gs G) (gs G).heap ∧
  (∀ k, k < 31 → va_OF "LostRoads$Token" "key" "J" (.long (tk_key.getD k 0)) (ga G k) (ax_A G) (gs G) (gs G).heap) ∧
  va_Z "LostRoads$Token" "ALL" "[LLostRoads$Token;" (.ref (ga G 31)) (ax_A G) (gs G) (gs G).heap ∧
  ax_row G (ga G 31) (.object "LostRoads$Token") 31 (fun j => .ref (ga G j)) ∧
  va_Z "LostRoads$1" "$SwitchMap$LostRoads$Token" "[I" (.ref (ga G 33)) (ax_A G) (gs G) (gs G).heap ∧
  ax_row G (ga G 33) .int 31 (fun j => .int (tk_sw.getD j 0)) ∧
  va_X (ga G 32) (gn G) (gx G) (gs G) (gs G).heap
abbrev X (G : ax_G) (d : Nat) (M : ax_M) (pc : Nat) (lv : List (Option Value)) (st : List Value) (h : ax_H) (Q : ax_O → ax_H → Prop) : Prop := ax_X ax_old G d M pc lv st h Q
section AMM
variable {G : ax_G} {d : Nat} {M : ax_M} {pc : Nat} {lv : List (Option Value)} {st : List Value} {h : ax_H} {Q : ax_O → ax_H → Prop}
/-- a step with the room at hand -/
theorem ax_goB {old : ax_G → Prop} {pc' : Nat} {st' : List Value} (hk : ∀ (p : Program) (e : Env) (R : Room) (s : State) (m : MethodId) (args : Array Value) (below : List Frame) (meth : Method) (c : Code) (H : Heap) (locs : List Loc) (cells slots : Nat) (Qf : State → Prop) (ls : Array Slot), ax_ok G old → ax_C G d M p R s m meth c → ax_L G ls lv → ax_R G h H → cells ≤ R.cells → slots ≤ R.slots →
      W p (gl G) e R s m args below meth c H locs cells slots Qf (F0 m pc' ls (st'.map (ax_v G))) → W p (gl G) e R s m args below meth c H locs cells slots Qf (F0 m pc ls (st.map (ax_v G))))
    (k : ax_X old G d M pc' lv st' h Q) : ax_X old G d M pc lv st h Q := by
  obtain ⟨o, h', hq, h1, h2, k⟩ := k
  exact ⟨o, h', hq, h1, h2, fun ok p e R s m args below meth c C n0 s0 g1 g2 g3 g4 Qf hE H locs ls hR hl hL => hk p e R s m args below meth c H locs _ _ Qf ls ok C hL hR (by omega) (by omega) (k ok p e R s m args below meth c C n0 s0 g1 g2 g3 g4 Qf hE H locs ls hR hl hL)⟩
theorem ax_szm (st : List Value) : ((st.map (ax_v G)).map fun v => v.category).sum = ax_sz st := by
  rw [List.map_map, show ((fun v : Value => v.category) ∘ ax_v G) = (fun v => v.category) from funext (ax_cat G)]
  rfl
theorem ax_mmax {idx : Nat} {x y : Int32} (hd : decode M.2.1 pc = .ok (.invokestatic idx, 3)) (w1 : ax_g (.methodLink M.1.cls idx Lib.Math.max.name)) (w2 : ax_g (.static Lib.Math.max.name)) (w3 : ax_g (.initialized "java/lang/Math")) (w4 : ax_g (.code Lib.Math.max.name Lib.Math.max.code 2 (some .int))) (hlen : lv.length = M.2.2.1) (hs : ax_sz st ≤ 8) (hd1 : 1 ≤ d) (kk : X G d M (pc + 3) lv (.int (if x < y then y else x) :: st) h Q) : X G d M pc lv (.int y :: .int x :: st) h Q :=
  ax_goB (st := .int y :: .int x :: st) (st' := .int (if x < y then y else x) :: st) (fun p e R s m args below meth c H locs cells slots Qf ls ok C hL hR hc1 hc2 w => va_mmax C.1 C.2.1 (by rw [C.2.2.1, ← hlen]; exact hL.1.symm) C.2.2.2.1 (ax_w ok C.2.2.2.2.1 w1 args) (ax_w ok C.2.2.2.2.1 w2 args) (ax_w ok C.2.2.2.2.1 w3 args) (ax_w ok C.2.2.2.2.1 w4 args) (by have := C.2.2.2.2.2.1; omega) (by rw [ax_szm]; have := C.2.2.2.2.2.2.1; omega) hc1 hc2 hd w) kk
theorem ax_mmin {idx : Nat} {x y : Int32} (hd : decode M.2.1 pc = .ok (.invokestatic idx, 3)) (w1 : ax_g (.methodLink M.1.cls idx Lib.Math.min.name)) (w2 : ax_g (.static Lib.Math.min.name)) (w3 : ax_g (.initialized "java/lang/Math")) (w4 : ax_g (.code Lib.Math.min.name Lib.Math.min.code 2 (some .int))) (hlen : lv.length = M.2.2.1) (hs : ax_sz st ≤ 8) (hd1 : 1 ≤ d) (kk : X G d M (pc + 3) lv (.int (if y < x then y else x) :: st) h Q) : X G d M pc lv (.int y :: .int x :: st) h Q :=
  ax_goB (st := .int y :: .int x :: st) (st' := .int (if y < x then y else x) :: st) (fun p e R s m args below meth c H locs cells slots Qf ls ok C hL hR hc1 hc2 w => va_mmin C.1 C.2.1 (by rw [C.2.2.1, ← hlen]; exact hL.1.symm) C.2.2.2.1 (ax_w ok C.2.2.2.2.1 w1 args) (ax_w ok C.2.2.2.2.1 w2 args) (ax_w ok C.2.2.2.2.1 w3 args) (ax_w ok C.2.2.2.2.1 w4 args) (by have := C.2.2.2.2.2.1; omega) (by rw [ax_szm]; have := C.2.2.2.2.2.2.1; omega) hc1 hc2 hd w) kk
theorem ax_copyi {idx a0 a1 n0 n1 : Nat} {f g : Nat → Int32} {sp dp n : Int32} {sp' dp' n' : Nat} (hd : decode M.2.1 pc = .ok (.invokestatic idx, 3)) (w1 : ax_g (.methodLink M.1.cls idx arraycopyName)) (w2 : ax_g (.native arraycopyName)) (w3 : ax_g (.static arraycopyName)) (w4 : ax_g (.initialized "java/lang/System")) (he0 : h.2.2 a0 = some (.inl (.int, n0, .inl f))) (he1 : h.2.2 a1 = some (.inl (.int, n1, .inl g))) (h1 : ¬ sp < 0) (h2 : ¬ dp < 0) (h3 : ¬ n < 0) (e1 : sp.toNatClampNeg = sp') (e2 : dp.toNatClampNeg = dp') (e3 : n.toNatClampNeg = n') (h4 : sp' + n' ≤ n0) (h5 : dp' + n' ≤ n1) (hlen : lv.length = M.2.2.1) (hs : ax_sz st ≤ 8) (hd1 : 1 ≤ d)
    (kk : X G d M (pc + 3) lv st (ax_wr h a1 (.inl (.int, n1, .inl (va_cpy f g sp' dp' n')))) Q) : X G d M pc lv (.int n :: .int dp :: .ref a1 :: .int sp :: .ref a0 :: st) h Q := by
  subst e1; subst e2; subst e3
  refine ax_goH (st := .int n :: .int dp :: .ref a1 :: .int sp :: .ref a0 :: st) (st' := st) (h1 := ax_wr h a1 (.inl (.int, n1, .inl (va_cpy f g sp.toNatClampNeg dp.toNatClampNeg n.toNatClampNeg)))) rfl rfl (fun p e R s m args below meth c H locs cells slots Qf ls ok C hL hR hlc w => ?_) kk
  have nn : ∀ z : Int32, ¬ z < 0 → z.toInt = (z.toNatClampNeg : Int) := by
    intro z hz
    have hz0 : (0 : Int) ≤ z.toInt := by
      have := Int32.not_lt.mp hz
      simpa using Int32.le_iff_toInt_le.mp this
    show z.toInt = ((z.toInt.toNat : Nat) : Int)
    omega
  have hW := C.2.2.2.2.1
  intro T hT X
  have hc0 : H[ax_r G a0]? = some (vp_cell (gt G .int) (n0, .inl f)) := ax_cell hR he0
  have hc1 : H[ax_r G a1]? = some (vp_cell (gt G .int) (n1, .inl g)) := ax_cell hR he1
  have hAr := ax_at (ok := ok) (ty := .int) (by decide) hW
  obtain ⟨-, k0, hk0, cm0, hkk0⟩ := hAr n0 (fun j => .int (f j))
  obtain ⟨-, k1, hk1, cm1, hkk1⟩ := hAr n1 (fun j => .int (g j))
  obtain ⟨vm', X', step⟩ := X.arraycopy C.1 C.2.2.2.1 (ax_w ok hW w1 args) (ax_w ok hW w2 args) (ax_w ok hW w3 args) (ax_w ok hW w4 args) (src := ax_r G a0) (dst := ax_r G a1) (cs := vp_cell (gt G .int) (n0, .inl f)) (cd := vp_cell (gt G .int) (n1, .inl g)) (srcPos := sp) (destPos := dp) (n := n) (by rw [hT]; exact hc0) (by rw [hT]; exact hc1)
    (fun _ h => by cases h) (fun _ h => by cases h) (fun h => by cases h) (fun h => by cases h) hk0 hk1 hkk0 hkk1 (by simp [refKind]) h1 h2 h3
    (by rw [nn sp h1, nn n h3]; show ¬ _ > ((arrV (gt G .int) n0 (fun j => .int (f j))).slots.size : Int); rw [arrV_size]; omega)
    (by rw [nn dp h2, nn n h3]; show ¬ _ > ((arrV (gt G .int) n1 (fun j => .int (g j))).slots.size : Int); rw [arrV_size]; omega)
    (fun vm₁ _ i hi => by
      have e : (vp_cell (gt G .int) (n0, .inl f)).slots.getD (sp.toNatClampNeg + i) .null = .int (f (sp.toNatClampNeg + i)) := by
        show (arrV (gt G .int) n0 (fun j => .int (f j))).slots.getD _ _ = _
        rw [Array.getD_eq_getD_getElem?, arrV_read _ _ (by omega)]
        rfl
      refine ⟨?_, ?_⟩
      · rw [e]
        rfl
      · rw [e]
        exact trivial)
    (g := F0 m pc ls ((Value.int n :: .int dp :: .ref a1 :: .int sp :: .ref a0 :: st).map (ax_v G))) rfl (by rw [C.2.2.1, ← hlen]; exact hL.1) (rest := st.map (ax_v G)) rfl (by rw [C.2.1]; exact hd) (by have := C.2.2.2.2.2.1; omega) (by have h9 : nativeFrameWords "java/lang/System" "arraycopy" 5 ≤ 40 := (by decide); have h8 := C.2.2.2.2.2.2.1; show 2 * 0 + _ + _ ≤ _; rw [ax_szm]; omega)
  have e1 : copied (vp_cell (gt G .int) (n0, .inl f)) (vp_cell (gt G .int) (n1, .inl g)) sp dp n = vp_cell (gt G .int) (n1, .inl (va_cpy f g sp.toNatClampNeg dp.toNatClampNeg n.toNatClampNeg)) := va_copied (fun z => .int z) _ _ f g h4
  rw [e1] at X' step
  have hl : ax_r G a1 < H.size := (Array.getElem?_eq_some_iff.mp hc1).1
  have hheap : ((T.setVm vm').setCell (ax_r G a1) (vp_cell (gt G .int) (n1, .inl (va_cpy f g sp.toNatClampNeg dp.toNatClampNeg n.toNatClampNeg)))).heap = H.setIfInBounds (ax_r G a1) (vp_cell (gt G .int) (n1, .inl (va_cpy f g sp.toNatClampNeg dp.toNatClampNeg n.toNatClampNeg))) := by rw [← hT]; rfl
  have oq : ∀ q : Nat, q ≠ ax_r G a1 → (H.setIfInBounds (ax_r G a1) (vp_cell (gt G .int) (n1, .inl (va_cpy f g sp.toNatClampNeg dp.toNatClampNeg n.toNatClampNeg))))[q]? = H[q]? := fun q hq => by simp [Array.getElem?_setIfInBounds, Ne.symm hq]
  obtain ⟨t, a1', b1⟩ := w _ _ (hR.wr he1 (show (H.setIfInBounds (ax_r G a1) _)[ax_r G a1]? = some _ by simp [Array.getElem?_setIfInBounds, hl]; rfl) (by simp) oq) (fun q hq => by
      rcases List.mem_append.mp hq with h | h
      · exact hlc q h
      · obtain ⟨z, -, hz⟩ := List.mem_map.mp h
        rw [← hz]
        exact ax_base hR he1) _ hheap X'
  exact ⟨t, step t a1', b1⟩
end AMM
