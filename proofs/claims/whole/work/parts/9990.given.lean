/-! ===== what the Statement gives at the start ===== -/
section GIV
variable {args : Array Value} {s : State} {A : Nat → Prop}
abbrev en_L : List Cond := flatC (Jvm.Cond.and given_1 narrow_1)
abbrev en_st (i : Nat) : Term := .static "LostRoads$Token" (tk_nm.getD i "") "LLostRoads$Token;"
abbrev en_al : Term := .static "LostRoads$Token" "ALL" "[LLostRoads$Token;"
abbrev en_sw : Term := .static "LostRoads$1" "$SwitchMap$LostRoads$Token" "[I"
def en_f (i : Nat) (q : String × String × String × List Int32) : Cond := .eq (.field (en_st i) q.1 q.2.1 q.2.2.1) (.int (q.2.2.2.getD i 0))
def en_k (i : Nat) : Cond := .eq (.field (en_st i) "LostRoads$Token" "key" "J") (.long (tk_key.getD i 0))
def en_row (i : Nat) : List Cond := .exactly (en_st i) "LostRoads$Token" :: ((tk_F.take 1).map (en_f i) ++ (en_k i :: (tk_F.drop 1).map (en_f i)))
def en_p : List Nat := [4, 12, 64, 56, 194, 202, 146, 212, 220, 228, 236, 244, 252, 260, 186, 268, 276, 284, 292, 170, 300, 308, 316, 154, 162, 130, 138, 178, 106, 114, 122]
theorem en_in : ∀ i, i < 31 → (en_L.drop (en_p.getD i 0)).take 8 = en_row i := by decide +kernel
theorem en_m {i : Nat} (hi : i < 31) {w : Cond} (hw : w ∈ en_row i) : w ∈ en_L := List.mem_of_mem_drop (List.mem_of_mem_take (by rw [en_in i hi]; exact hw))
theorem en_fm {i : Nat} {q : String × String × String × List Int32} (hq : q ∈ tk_F) : en_f i q ∈ en_row i := by
  rw [← List.take_append_drop 1 tk_F] at hq
  rcases List.mem_append.mp hq with z | z
  · exact List.mem_cons_of_mem _ (List.mem_append_left _ (List.mem_map.mpr ⟨q, z, rfl⟩))
  · exact List.mem_cons_of_mem _ (List.mem_append_right _ (List.mem_cons_of_mem _ (List.mem_map.mpr ⟨q, z, rfl⟩)))
theorem en_km {i : Nat} : en_k i ∈ en_row i := List.mem_cons_of_mem _ (List.mem_append_right _ List.mem_cons_self)
theorem en_lay : ∀ i, i < 31 → Cond.laysStatic "LostRoads$Token" (tk_nm.getD i "") "LLostRoads$Token;" ∈ lw_tbl := by decide +kernel
theorem en_ini : Cond.initialized "LostRoads$Token" ∈ lw_tbl := by decide +kernel
theorem en_ord : ∀ i, i < 31 → ∀ j, j < 31 → tk_ord.getD i 0 = tk_ord.getD j 0 → i = j := by decide
theorem en_o : (("java/lang/Enum", "ordinal", "I", tk_ord) : String × String × String × List Int32) ∈ tk_F := List.mem_cons_self
theorem en_tok (hts : ∀ w ∈ lw_tbl, w.before args s = true) (hg : ∀ w ∈ en_L, w.before args s = true) (hA : ∀ a : Nat, a < s.heap.size → ¬ A a) : ∃ ad : Nat → Nat, va_En "LostRoads$Token" "LLostRoads$Token;" tk_nm tk_F ad A s s.heap ∧ (∀ i, i < 31 → va_OF "LostRoads$Token" "key" "J" (.long (tk_key.getD i 0)) (ad i) A s s.heap) ∧ ∀ i, i < 31 → (en_st i).eval args s none [] s = some (.ref (ad i)) ∧ ad i < s.heap.size := by
  have h0 : ∀ i : Nat, ∃ t : Nat, i < 31 → (en_st i).eval args s none [] s = some (.ref t) ∧ va_O "LostRoads$Token" t A s s.heap := by
    intro i
    by_cases hi : i < 31
    · obtain ⟨a, c, cell, k, q1, q2, q3, q4, q5, q6, -⟩ := Cond.exactly_spec (hg _ (en_m hi List.mem_cons_self))
      exact ⟨a, fun _ => ⟨q1, cell, q3, q5, by rw [q6]; exact q2, hA a (Array.getElem?_eq_some_iff.mp q3).1⟩⟩
    · exact ⟨0, fun h => absurd h hi⟩
  obtain ⟨ad, had⟩ := Classical.axiomOfChoice h0
  have hof : ∀ (o n d : String) (v : Value) (i : Nat), i < 31 → (Term.field (en_st i) o n d).eval args s none [] s = some v → va_OF o n d v (ad i) A s s.heap := by
    intro o n d v i hi hv
    cases hfo : s.fieldFound? o n d with
    | none =>
      rw [va_fe (had i hi).1] at hv
      simp [State.fieldOf?, State.fieldNamed?, hfo] at hv
    | some x =>
      obtain ⟨cf, k, fi, f⟩ := x
      obtain ⟨g1, cell, g2, g3, -, -, g6⟩ := Term.field_spec hfo (had i hi).1 hv
      exact ⟨cf, k, fi, f, cell, hfo, g1, g2, g3, g6, hA _ (Array.getElem?_eq_some_iff.mp g2).1⟩
  have hf : ∀ q ∈ tk_F, ∀ i, i < 31 → va_OF q.1 q.2.1 q.2.2.1 (.int (q.2.2.2.getD i 0)) (ad i) A s s.heap := fun q hq i hi => hof _ _ _ _ i hi (va_eqt (hg _ (en_m hi (en_fm hq))))
  refine ⟨ad, ⟨fun i hi => ⟨va_Zref (hts _ (en_lay i hi)) (hts _ en_ini) (had i hi).1 hA, (had i hi).2, fun q hq => hf q hq i hi⟩, fun i j hi hj e => ?_⟩, fun i hi => hof _ _ _ _ i hi (va_eqtl (hg _ (en_m hi en_km))), fun i hi => ⟨(had i hi).1, ?_⟩⟩
  · obtain ⟨cf, k, fi, f, cell, a1, a2, a3, a4, a5, a6⟩ := hf _ en_o i hi
    obtain ⟨cf', k', fi', f', cell', b1, b2, b3, b4, b5, b6⟩ := hf _ en_o j hj
    have e1 := Option.some.inj (a1.symm.trans b1)
    have e2 : f = f' := congrArg (fun x => x.2.2.2) e1
    subst e2
    rw [e] at a3
    have e3 := Option.some.inj (a3.symm.trans b3)
    subst e3
    exact en_ord i hi j hj (Value.int.inj (Option.some.inj (a5.symm.trans b5)))
  · obtain ⟨cell, a1, -⟩ := (had i hi).2
    exact (Array.getElem?_eq_some_iff.mp a1).1
/-- a row that lies in a static from the start -/
theorem en_arr {tm : Term} {ty : FieldType} {N : Nat} {f : Nat → Value} (hN : N < 2 ^ 31) (harr : (Cond.arrayOf tm ty).before args s = true) (hlen : (Term.length tm).eval args s none [] s = some (.int (Int32.ofNat N))) (hel : ∀ j : Nat, j < N → (Term.elem tm (.int (Int32.ofNat j))).eval args s none [] s = some (f j)) : ∃ t : Nat, tm.eval args s none [] s = some (.ref t) ∧ t < s.heap.size ∧ ∃ cell : Cell, s.heap[t]? = some cell ∧ s.isArrayOf cell ty ∧ cell.vm ≠ .unknown ∧ cell.slots.size = N ∧ ∀ j, j < N → cell.slots[j]? = some (f j) := by
  obtain ⟨t, cell, ht, hat, hv⟩ := Term.length_spec hlen
  have hsz : cell.slots.size < 2 ^ 31 := by
    have hl := hlen
    simp only [Term.eval, ht, hat, Option.bind_eq_bind, Option.bind_some] at hl
    by_cases hlt : cell.slots.size < 2147483648
    · exact hlt
    · simp [hlt] at hl
  obtain ⟨t', ht', cell', h1, h2, h3, -, -, h6, -⟩ := va_Tof (A := fun _ => False) hN harr hlen hel (fun _ _ z => z)
  cases ht.symm.trans ht'
  obtain ⟨hcell, -, -, -⟩ := State.arrayAt?_spec hat
  cases hcell.symm.trans h1
  refine ⟨t, ht, (Array.getElem?_eq_some_iff.mp h1).1, cell, h1, h2, h3, ?_, h6⟩
  have e : Int32.ofNat N = Int32.ofNat cell.slots.size := Value.int.inj hv
  have e2 := congrArg Int32.toNatClampNeg e
  rw [Int32.toNatClampNeg_ofNat_of_lt hN, Int32.toNatClampNeg_ofNat_of_lt hsz] at e2
  exact e2.symm
def en_ea (j : Nat) : Cond := .eq (.elem en_al (.int (Int32.ofNat j))) (en_st j)
def en_es (j : Nat) : Cond := .eq (.elem en_sw (.int (Int32.ofNat j))) (.int (tk_sw.getD j 0))
theorem en_ra : (List.range 31).map en_ea = (en_L.drop 25).take 31 := by decide +kernel
theorem en_rs : (List.range 31).map en_es = (en_L.drop 75).take 31 := by decide +kernel
theorem en_w1 : Cond.arrayOf en_al (.object "LostRoads$Token") ∈ en_L := List.mem_of_getElem? (i := 22) (by decide +kernel)
theorem en_w2 : Cond.eq (.length en_al) (.int 31) ∈ en_L := List.mem_of_getElem? (i := 23) (by decide +kernel)
theorem en_w3 : Cond.arrayOf en_sw .int ∈ en_L := List.mem_of_getElem? (i := 73) (by decide +kernel)
theorem en_w4 : Cond.eq (.length en_sw) (.int 31) ∈ en_L := List.mem_of_getElem? (i := 74) (by decide +kernel)
theorem en_w5 : Cond.isRef (.static Bundle.tN "UNASSIGNED_STACK" Bundle.steD) ∈ en_L := List.mem_of_getElem? (i := 210) (by decide +kernel)
theorem en_w6 : Cond.isRef (.static Bundle.tN "SUPPRESSED_SENTINEL" Bundle.listD) ∈ en_L := List.mem_of_getElem? (i := 211) (by decide +kernel)
def en_tp : List Nat := [364, 381, 406, 426]
theorem en_w7 : ∀ i, i < 4 → en_L[en_tp.getD i 0]? = some (.exactly (.string "LostRoads" (th_tx.getD i (0, "")).1) "java/lang/String") := by decide +kernel
theorem en_t1 : ∀ q ∈ th_tx, Cond.stringRef "LostRoads" q.1 q.2 ∈ lw_tbl := by decide +kernel
theorem en_t2 : Cond.laysStatic "LostRoads$Token" "ALL" "[LLostRoads$Token;" ∈ lw_tbl ∧ Cond.laysStatic "LostRoads$1" "$SwitchMap$LostRoads$Token" "[I" ∈ lw_tbl ∧ Cond.initialized "LostRoads$1" ∈ lw_tbl := by decide +kernel
theorem en_t3 : Cond.laysStatic Bundle.tN "UNASSIGNED_STACK" Bundle.steD ∈ lw_tbl ∧ Cond.laysStatic Bundle.tN "SUPPRESSED_SENTINEL" Bundle.listD ∈ lw_tbl ∧ Cond.initialized Bundle.tN ∈ lw_tbl := by decide +kernel
theorem en_t4 : ∀ q ∈ vwCl, Cond.instantiable q.1 q.2.2 ∈ lw_tbl := by decide +kernel
theorem en_t5 : Cond.arrayClass .int ∈ lw_tbl ∧ Cond.arrayClass .long ∈ lw_tbl ∧ Cond.arrayClass .byte ∈ lw_tbl ∧ Cond.arrayClass .boolean ∈ lw_tbl ∧ Cond.arrayOver (.object "LostRoads$Token") ∈ lw_tbl ∧ Cond.arrayOver (.object "LostRoads$State") ∈ lw_tbl := by decide +kernel
theorem en_str (hts : ∀ w ∈ lw_tbl, w.before args s = true) (hg : ∀ w ∈ en_L, w.before args s = true) : ∀ q ∈ th_tx, ∃ sa, vk_R "LostRoads" q.1 q.2 sa s := by
  intro q hq
  obtain ⟨i, hi, e⟩ := List.mem_iff_getElem.mp hq
  have hw : Cond.exactly (.string "LostRoads" q.1) "java/lang/String" ∈ en_L := by
    have := List.mem_of_getElem? (en_w7 i hi)
    rw [List.getD_eq_getElem?_getD, List.getElem?_eq_getElem hi, Option.getD_some, e] at this
    exact this
  obtain ⟨a, c, cell, k, q1, -⟩ := Cond.exactly_spec (hg _ hw)
  exact ⟨a, vk_R.of (hts _ (en_t1 q hq)) q1⟩
theorem en_pr {ty : FieldType} (h : (Cond.arrayClass ty).before args s = true) (hr : ∀ cA, s.vm.findClass ("[" ++ ty.toString) = some cA → va_RA s cA ty) : ∃ cA, ArrOfT s cA ty ∧ va_RA s cA ty := by
  obtain ⟨cA, kA, comp, h1, h2, h3⟩ := Cond.arrayClass_spec h
  exact ⟨cA, fun n z => ⟨fun k h => (by cases h), kA, h2, comp, h3⟩, hr cA h1⟩
theorem en_ov {C : String} (h : (Cond.arrayOver (.object C)).before args s = true) : ∃ cA, ArrOfT s cA (.object C) ∧ va_RA s cA (.object C) := by
  obtain ⟨comp, cA, kA, h1, -, h2, h3, h4⟩ := Cond.arrayOver_spec h
  exact ⟨cA, fun n z => ⟨fun k h => (by cases h), kA, h2, comp, h3⟩, kA, comp, h2, h3, h1, h4⟩
theorem en_tys (hts : ∀ w ∈ lw_tbl, w.before args s = true) : ∃ g : FieldType → ClassId, ∀ ty ∈ ax_tys, ArrOfT s (g ty) ty ∧ va_RA s (g ty) ty := by
  have h0 : ∀ ty : FieldType, ∃ cA : ClassId, ty ∈ ax_tys → ArrOfT s cA ty ∧ va_RA s cA ty := by
    intro ty
    by_cases hi : ty ∈ ax_tys
    · have key : ∃ cA, ArrOfT s cA ty ∧ va_RA s cA ty := by
        obtain ⟨t1, t2, t3, t4, t5, t6⟩ := en_t5
        rcases List.mem_cons.mp hi with rfl | hi
        · exact en_pr (hts _ t1) (fun cA z => z)
        rcases List.mem_cons.mp hi with rfl | hi
        · exact en_pr (hts _ t2) (fun cA z => z)
        rcases List.mem_cons.mp hi with rfl | hi
        · exact en_pr (hts _ t3) (fun cA z => z)
        rcases List.mem_cons.mp hi with rfl | hi
        · exact en_pr (hts _ t4) (fun cA z => z)
        rcases List.mem_cons.mp hi with rfl | hi
        · exact en_ov (hts _ t5)
        rcases List.mem_cons.mp hi with rfl | hi
        · exact en_ov (hts _ t6)
        · cases hi
      obtain ⟨cA, z⟩ := key
      exact ⟨cA, fun _ => z⟩
    · exact ⟨0, fun z => absurd z hi⟩
  obtain ⟨g, hg⟩ := Classical.axiomOfChoice h0
  exact ⟨g, hg⟩
theorem en_cls (hts : ∀ w ∈ lw_tbl, w.before args s = true) : ∃ D : va_G, ∀ (c : Nat) (q : vw_C), vwCl[c]? = some q → u_Kn s q.1 q.2.1 q.2.2 (D.1 c) (D.2 c) := by
  have h0 : ∀ c : Nat, ∃ D : ClassId × (Nat → Nat), ∀ q : vw_C, vwCl[c]? = some q → u_Kn s q.1 q.2.1 q.2.2 D.1 D.2 := by
    intro c
    cases hc : vwCl[c]? with
    | none => exact ⟨(0, fun _ => 0), fun q z => by cases z⟩
    | some q =>
      obtain ⟨a, b, z⟩ := u_known (C := q.1) (T := q.2.1) (N := q.2.2) (n := q.2.2) hts (fun w hw => ((ax_cls c q hc).1 w hw).1) (hts _ (en_t4 q (List.mem_of_getElem? hc)))
      exact ⟨(a, b), fun q' y => by cases y; exact z⟩
  obtain ⟨f, hf⟩ := Classical.axiomOfChoice h0
  exact ⟨(fun c => (f c).1, fun c => (f c).2), fun c q z => hf c q z⟩
/-- the whole of it: the old world for the machine of ours -/
theorem en_ok {b L : Nat} {xs : Nat → Int32} (l : Launch) (hl : l.stackTraces = false) (hts : ∀ w ∈ lw_tbl, w.before args s = true) (hg : ∀ w ∈ en_L, w.before args s = true) (hX : va_X b L xs s s.heap) (hb : b < s.heap.size) : ∃ G : ax_G, gl G = l ∧ gs G = s ∧ ga G 32 = b ∧ gn G = L ∧ ax_ok G ax_old ∧ Thr G := by
  have hA : ∀ a : Nat, a < s.heap.size → ¬ (fun q : Nat => s.heap.size ≤ q) a := fun a h => Nat.not_le.mpr h
  obtain ⟨ad, e1, e2, e3⟩ := en_tok (A := fun q : Nat => s.heap.size ≤ q) hts hg hA
  obtain ⟨t, a1, a2, a3⟩ := en_arr (f := fun j => .ref (ad j)) (N := 31) (by decide) (hg _ en_w1) (va_eqt (hg _ en_w2)) (fun j hj => va_eqv (hg _ (va_run en_ra j hj)) (e3 j hj).1)
  obtain ⟨u, b1, b2, b3⟩ := en_arr (f := fun j => .int (tk_sw.getD j 0)) (N := 31) (by decide) (hg _ en_w3) (va_eqt (hg _ en_w4)) (fun j hj => va_eqt (hg _ (va_run en_rs j hj)))
  obtain ⟨g, hgt⟩ := en_tys hts
  obtain ⟨D, hD⟩ := en_cls hts
  have c1 : ∀ k, k < 31 → (if k < 31 then ad k else if k = 31 then t else if k = 32 then b else u) = ad k := fun k hk => if_pos hk
  refine ⟨(l, s, D, g, fun k => if k < 31 then ad k else if k = 31 then t else if k = 32 then b else u, L, xs), rfl, rfl, rfl, rfl, ⟨⟨args, hts⟩, hD, hgt, ?_⟩, hl, vx_Zqof (hts _ en_t3.1) (hts _ en_t3.2.2) (hg _ en_w5) hA, vx_Zqof (hts _ en_t3.2.1) (hts _ en_t3.2.2) (hg _ en_w6) hA, en_str hts hg⟩
  refine ⟨fun k hk => ?_, ⟨fun i hi => ?_, fun i j hi hj => ?_⟩, fun k hk => ?_, va_Zref (hts _ en_t2.1) (hts _ en_ini) a1 hA, ?_, va_Zref (hts _ en_t2.2.1) (hts _ en_t2.2.2) b1 hA, b3, hX⟩
  · show (if k < 31 then ad k else if k = 31 then t else if k = 32 then b else u) < s.heap.size
    split
    · exact (e3 k (by assumption)).2
    · split
      · exact a2
      · split
        · exact hb
        · exact b2
  · have := e1.1 i hi
    dsimp only [ga]
    rw [c1 i hi]
    exact this
  · dsimp only [ga]
    rw [c1 i hi, c1 j hj]
    exact e1.2 i j hi hj
  · dsimp only [ga]
    rw [c1 k hk]
    exact e2 k hk
  · obtain ⟨cell, q1, q2, q3, q4, q5⟩ := a3
    refine ⟨cell, q1, q2, q3, q4, fun j hj => ?_⟩
    dsimp only [ga]
    rw [c1 j hj]
    exact q5 j hj
end GIV
