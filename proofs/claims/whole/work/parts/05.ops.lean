/-! ===== AM: rules for arithmetic, stack, branches, stores (printed by gen/ops.py) ===== -/
section AMO
variable {old : ax_G → Prop} {G : ax_G} {d : Nat} {M : ax_M} {pc : Nat} {lv : List (Option Value)} {st : List Value} {h : ax_H} {Q : ax_O → ax_H → Prop}
theorem ax_iadd {x y : Int32} (hd : decode M.2.1 pc = .ok (.iadd, 1)) (kk : ax_X old G d M (pc + 1) lv (.int (x + y) :: st) h Q) : ax_X old G d M pc lv (.int y :: .int x :: st) h Q :=
  ax_go (st := .int y :: .int x :: st) (st' := .int (x + y) :: st) (fun _ _ _ _ _ _ _ _ _ _ _ _ _ _ _ ok C hL _ w => lv_iadd C.1 C.2.1 hd w) kk
theorem ax_isub {x y : Int32} (hd : decode M.2.1 pc = .ok (.isub, 1)) (kk : ax_X old G d M (pc + 1) lv (.int (x - y) :: st) h Q) : ax_X old G d M pc lv (.int y :: .int x :: st) h Q :=
  ax_go (st := .int y :: .int x :: st) (st' := .int (x - y) :: st) (fun _ _ _ _ _ _ _ _ _ _ _ _ _ _ _ ok C hL _ w => lv_isub C.1 C.2.1 hd w) kk
theorem ax_imul {x y : Int32} (hd : decode M.2.1 pc = .ok (.imul, 1)) (kk : ax_X old G d M (pc + 1) lv (.int (x * y) :: st) h Q) : ax_X old G d M pc lv (.int y :: .int x :: st) h Q :=
  ax_go (st := .int y :: .int x :: st) (st' := .int (x * y) :: st) (fun _ _ _ _ _ _ _ _ _ _ _ _ _ _ _ ok C hL _ w => lv_imul C.1 C.2.1 hd w) kk
theorem ax_iand {x y : Int32} (hd : decode M.2.1 pc = .ok (.iand, 1)) (kk : ax_X old G d M (pc + 1) lv (.int (x &&& y) :: st) h Q) : ax_X old G d M pc lv (.int y :: .int x :: st) h Q :=
  ax_go (st := .int y :: .int x :: st) (st' := .int (x &&& y) :: st) (fun _ _ _ _ _ _ _ _ _ _ _ _ _ _ _ ok C hL _ w => lv_iand C.1 C.2.1 hd w) kk
theorem ax_ior {x y : Int32} (hd : decode M.2.1 pc = .ok (.ior, 1)) (kk : ax_X old G d M (pc + 1) lv (.int (x ||| y) :: st) h Q) : ax_X old G d M pc lv (.int y :: .int x :: st) h Q :=
  ax_go (st := .int y :: .int x :: st) (st' := .int (x ||| y) :: st) (fun _ _ _ _ _ _ _ _ _ _ _ _ _ _ _ ok C hL _ w => lv_ior C.1 C.2.1 hd w) kk
theorem ax_ishl {x y : Int32} (hd : decode M.2.1 pc = .ok (.ishl, 1)) (kk : ax_X old G d M (pc + 1) lv (.int (x <<< (y &&& 31)) :: st) h Q) : ax_X old G d M pc lv (.int y :: .int x :: st) h Q :=
  ax_go (st := .int y :: .int x :: st) (st' := .int (x <<< (y &&& 31)) :: st) (fun _ _ _ _ _ _ _ _ _ _ _ _ _ _ _ ok C hL _ w => lv_ishl C.1 C.2.1 hd w) kk
theorem ax_ishr {x y : Int32} (hd : decode M.2.1 pc = .ok (.ishr, 1)) (kk : ax_X old G d M (pc + 1) lv (.int (x >>> (y &&& 31)) :: st) h Q) : ax_X old G d M pc lv (.int y :: .int x :: st) h Q :=
  ax_go (st := .int y :: .int x :: st) (st' := .int (x >>> (y &&& 31)) :: st) (fun _ _ _ _ _ _ _ _ _ _ _ _ _ _ _ ok C hL _ w => lv_ishr C.1 C.2.1 hd w) kk
theorem ax_idiv {x y : Int32} (hd : decode M.2.1 pc = .ok (.idiv, 1)) (hne : ¬ y = 0) (kk : ax_X old G d M (pc + 1) lv (.int (x / y) :: st) h Q) : ax_X old G d M pc lv (.int y :: .int x :: st) h Q :=
  ax_go (st := .int y :: .int x :: st) (st' := .int (x / y) :: st) (fun _ _ _ _ _ _ _ _ _ _ _ _ _ _ _ ok C hL _ w => lv_idiv C.1 C.2.1 hd hne w) kk
theorem ax_ineg {x : Int32} (hd : decode M.2.1 pc = .ok (.ineg, 1)) (kk : ax_X old G d M (pc + 1) lv (.int (-x) :: st) h Q) : ax_X old G d M pc lv (.int x :: st) h Q :=
  ax_go (st := .int x :: st) (st' := .int (-x) :: st) (fun _ _ _ _ _ _ _ _ _ _ _ _ _ _ _ ok C hL _ w => lv_ineg C.1 C.2.1 hd w) kk
theorem ax_ladd {x y : Int64} (hd : decode M.2.1 pc = .ok (.ladd, 1)) (kk : ax_X old G d M (pc + 1) lv (.long (x + y) :: st) h Q) : ax_X old G d M pc lv (.long y :: .long x :: st) h Q :=
  ax_go (st := .long y :: .long x :: st) (st' := .long (x + y) :: st) (fun _ _ _ _ _ _ _ _ _ _ _ _ _ _ _ ok C hL _ w => lv_ladd C.1 C.2.1 hd w) kk
theorem ax_lsub {x y : Int64} (hd : decode M.2.1 pc = .ok (.lsub, 1)) (kk : ax_X old G d M (pc + 1) lv (.long (x - y) :: st) h Q) : ax_X old G d M pc lv (.long y :: .long x :: st) h Q :=
  ax_go (st := .long y :: .long x :: st) (st' := .long (x - y) :: st) (fun _ _ _ _ _ _ _ _ _ _ _ _ _ _ _ ok C hL _ w => lv_lsub C.1 C.2.1 hd w) kk
theorem ax_lmul {x y : Int64} (hd : decode M.2.1 pc = .ok (.lmul, 1)) (kk : ax_X old G d M (pc + 1) lv (.long (x * y) :: st) h Q) : ax_X old G d M pc lv (.long y :: .long x :: st) h Q :=
  ax_go (st := .long y :: .long x :: st) (st' := .long (x * y) :: st) (fun _ _ _ _ _ _ _ _ _ _ _ _ _ _ _ ok C hL _ w => lv_lmul C.1 C.2.1 hd w) kk
theorem ax_land {x y : Int64} (hd : decode M.2.1 pc = .ok (.land, 1)) (kk : ax_X old G d M (pc + 1) lv (.long (x &&& y) :: st) h Q) : ax_X old G d M pc lv (.long y :: .long x :: st) h Q :=
  ax_go (st := .long y :: .long x :: st) (st' := .long (x &&& y) :: st) (fun _ _ _ _ _ _ _ _ _ _ _ _ _ _ _ ok C hL _ w => lv_land C.1 C.2.1 hd w) kk
theorem ax_lor {x y : Int64} (hd : decode M.2.1 pc = .ok (.lor, 1)) (kk : ax_X old G d M (pc + 1) lv (.long (x ||| y) :: st) h Q) : ax_X old G d M pc lv (.long y :: .long x :: st) h Q :=
  ax_go (st := .long y :: .long x :: st) (st' := .long (x ||| y) :: st) (fun _ _ _ _ _ _ _ _ _ _ _ _ _ _ _ ok C hL _ w => lv_lor C.1 C.2.1 hd w) kk
theorem ax_ldiv {x y : Int64} (hd : decode M.2.1 pc = .ok (.ldiv, 1)) (hne : ¬ y = 0) (kk : ax_X old G d M (pc + 1) lv (.long (x / y) :: st) h Q) : ax_X old G d M pc lv (.long y :: .long x :: st) h Q :=
  ax_go (st := .long y :: .long x :: st) (st' := .long (x / y) :: st) (fun _ _ _ _ _ _ _ _ _ _ _ _ _ _ _ ok C hL _ w => lv_ldiv C.1 C.2.1 hd hne w) kk
theorem ax_lrem {x y : Int64} (hd : decode M.2.1 pc = .ok (.lrem, 1)) (hne : ¬ y = 0) (kk : ax_X old G d M (pc + 1) lv (.long (x - x / y * y) :: st) h Q) : ax_X old G d M pc lv (.long y :: .long x :: st) h Q :=
  ax_go (st := .long y :: .long x :: st) (st' := .long (x - x / y * y) :: st) (fun _ _ _ _ _ _ _ _ _ _ _ _ _ _ _ ok C hL _ w => lv_lrem C.1 C.2.1 hd hne w) kk
theorem ax_lcmp {x y : Int64} (hd : decode M.2.1 pc = .ok (.lcmp, 1)) (kk : ax_X old G d M (pc + 1) lv (.int (lg_cmp x y) :: st) h Q) : ax_X old G d M pc lv (.long y :: .long x :: st) h Q :=
  ax_go (st := .long y :: .long x :: st) (st' := .int (lg_cmp x y) :: st) (fun _ _ _ _ _ _ _ _ _ _ _ _ _ _ _ ok C hL _ w => W.lcmp C.1 C.2.1 hd w) kk
theorem ax_i2l {x : Int32} (hd : decode M.2.1 pc = .ok (.i2l, 1)) (kk : ax_X old G d M (pc + 1) lv (.long x.toInt64 :: st) h Q) : ax_X old G d M pc lv (.int x :: st) h Q :=
  ax_go (st := .int x :: st) (st' := .long x.toInt64 :: st) (fun _ _ _ _ _ _ _ _ _ _ _ _ _ _ _ ok C hL _ w => lv_i2l C.1 C.2.1 hd rfl w) kk
theorem ax_l2i {x : Int64} (hd : decode M.2.1 pc = .ok (.l2i, 1)) (kk : ax_X old G d M (pc + 1) lv (.int x.toInt32 :: st) h Q) : ax_X old G d M pc lv (.long x :: st) h Q :=
  ax_go (st := .long x :: st) (st' := .int x.toInt32 :: st) (fun _ _ _ _ _ _ _ _ _ _ _ _ _ _ _ ok C hL _ w => lv_l2i C.1 C.2.1 hd rfl w) kk
theorem ax_i2b {x : Int32} (hd : decode M.2.1 pc = .ok (.i2b, 1)) (kk : ax_X old G d M (pc + 1) lv (.int x.toInt8.toInt32 :: st) h Q) : ax_X old G d M pc lv (.int x :: st) h Q :=
  ax_go (st := .int x :: st) (st' := .int x.toInt8.toInt32 :: st) (fun _ _ _ _ _ _ _ _ _ _ _ _ _ _ _ ok C hL _ w => lv_i2b C.1 C.2.1 hd rfl w) kk
theorem ax_lushr {x : Int64} {y : Int32} (hd : decode M.2.1 pc = .ok (.lushr, 1)) (kk : ax_X old G d M (pc + 1) lv (.long (x.toUInt64 >>> (y.toInt64.toUInt64 &&& Int64.toUInt64 63)).toInt64 :: st) h Q) : ax_X old G d M pc lv (.int y :: .long x :: st) h Q :=
  ax_go (st := .int y :: .long x :: st) (st' := .long (x.toUInt64 >>> (y.toInt64.toUInt64 &&& Int64.toUInt64 63)).toInt64 :: st) (fun _ _ _ _ _ _ _ _ _ _ _ _ _ _ _ ok C hL _ w => lv_lushr C.1 C.2.1 hd rfl w) kk
theorem ax_lshl {x : Int64} {y : Int32} (hd : decode M.2.1 pc = .ok (.lshl, 1)) (kk : ax_X old G d M (pc + 1) lv (.long (x <<< (y.toInt64 &&& 63)) :: st) h Q) : ax_X old G d M pc lv (.int y :: .long x :: st) h Q :=
  ax_go (st := .int y :: .long x :: st) (st' := .long (x <<< (y.toInt64 &&& 63)) :: st) (fun _ _ _ _ _ _ _ _ _ _ _ _ _ _ _ ok C hL _ w => lv_lshl C.1 C.2.1 hd rfl w) kk
theorem ax_lshr {x : Int64} {y : Int32} (hd : decode M.2.1 pc = .ok (.lshr, 1)) (kk : ax_X old G d M (pc + 1) lv (.long (x >>> (y.toInt64 &&& 63)) :: st) h Q) : ax_X old G d M pc lv (.int y :: .long x :: st) h Q :=
  ax_go (st := .int y :: .long x :: st) (st' := .long (x >>> (y.toInt64 &&& 63)) :: st) (fun _ _ _ _ _ _ _ _ _ _ _ _ _ _ _ ok C hL _ w => lv_lshr C.1 C.2.1 hd rfl w) kk
theorem ax_dup {v : Value} (hd : decode M.2.1 pc = .ok (.dup, 1)) (hv : v.category = 1) (kk : ax_X old G d M (pc + 1) lv (v :: v :: st) h Q) : ax_X old G d M pc lv (v :: st) h Q :=
  ax_go (st := v :: st) (st' := v :: v :: st) (fun _ _ _ _ _ _ _ _ _ _ _ _ _ _ _ ok C hL _ w => lv_dup C.1 C.2.1 hd ((ax_cat G v).trans hv) w) kk
theorem ax_pop {v : Value} (hd : decode M.2.1 pc = .ok (.pop, 1)) (hv : v.category = 1) (kk : ax_X old G d M (pc + 1) lv (st) h Q) : ax_X old G d M pc lv (v :: st) h Q :=
  ax_go (st := v :: st) (st' := st) (fun _ _ _ _ _ _ _ _ _ _ _ _ _ _ _ ok C hL _ w => lv_pop C.1 C.2.1 hd ((ax_cat G v).trans hv) w) kk
theorem ax_dup2 {v u : Value} (hd : decode M.2.1 pc = .ok (.dup2, 1)) (hv : v.category = 1) (hu : u.category = 1) (kk : ax_X old G d M (pc + 1) lv (v :: u :: v :: u :: st) h Q) : ax_X old G d M pc lv (v :: u :: st) h Q :=
  ax_go (st := v :: u :: st) (st' := v :: u :: v :: u :: st) (fun _ _ _ _ _ _ _ _ _ _ _ _ _ _ _ ok C hL _ w => lv_dup2_11 C.1 C.2.1 hd ((ax_cat G v).trans hv) ((ax_cat G u).trans hu) w) kk
theorem ax_goto {off : Int} (tgt : Nat) (hd : decode M.2.1 pc = .ok (.goto off, 3)) (ht : (pc : Int) + off = (tgt : Int)) (kk : ax_X old G d M tgt lv st h Q) : ax_X old G d M pc lv st h Q :=
  ax_go (fun _ _ _ _ _ _ _ _ _ _ _ _ _ _ _ ok C hL _ w => lv_goto C.1 C.2.1 hd ht w) kk
theorem ax_if_eq {x : Int32} {off : Int} (tgt : Nat) (hd : decode M.2.1 pc = .ok (.ifCond .eq off, 3)) (ht : (pc : Int) + off = (tgt : Int)) (kt : x = 0 → ax_X old G d M tgt lv st h Q) (kf : ¬ x = 0 → ax_X old G d M (pc + 3) lv st h Q) : ax_X old G d M pc lv (.int x :: st) h Q := by
  by_cases hc : x = 0
  · exact ax_go (st := .int x :: st) (st' := st) (fun _ _ _ _ _ _ _ _ _ _ _ _ _ _ _ ok C hL _ w => lv_if_eq C.1 C.2.1 hd ht (fun _ => w) (fun q => absurd hc q)) (kt hc)
  · exact ax_go (st := .int x :: st) (st' := st) (fun _ _ _ _ _ _ _ _ _ _ _ _ _ _ _ ok C hL _ w => lv_if_eq C.1 C.2.1 hd ht (fun q => absurd q hc) (fun _ => w)) (kf hc)
theorem ax_if_eqT {x : Int32} {off : Int} (tgt : Nat) (hd : decode M.2.1 pc = .ok (.ifCond .eq off, 3)) (ht : (pc : Int) + off = (tgt : Int)) (hc : x = 0) (kt : ax_X old G d M tgt lv st h Q) : ax_X old G d M pc lv (.int x :: st) h Q := ax_if_eq tgt hd ht (fun _ => kt) (fun q => absurd hc q)
theorem ax_if_eqF {x : Int32} {off : Int} (tgt : Nat) (hd : decode M.2.1 pc = .ok (.ifCond .eq off, 3)) (ht : (pc : Int) + off = (tgt : Int)) (hc : ¬ x = 0) (kf : ax_X old G d M (pc + 3) lv st h Q) : ax_X old G d M pc lv (.int x :: st) h Q := ax_if_eq tgt hd ht (fun q => absurd q hc) (fun _ => kf)
theorem ax_icmp_eq {x y : Int32} {off : Int} (tgt : Nat) (hd : decode M.2.1 pc = .ok (.if_icmp .eq off, 3)) (ht : (pc : Int) + off = (tgt : Int)) (kt : x = y → ax_X old G d M tgt lv st h Q) (kf : ¬ x = y → ax_X old G d M (pc + 3) lv st h Q) : ax_X old G d M pc lv (.int y :: .int x :: st) h Q := by
  by_cases hc : x = y
  · exact ax_go (st := .int y :: .int x :: st) (st' := st) (fun _ _ _ _ _ _ _ _ _ _ _ _ _ _ _ ok C hL _ w => lv_icmp_eq C.1 C.2.1 hd ht (fun _ => w) (fun q => absurd hc q)) (kt hc)
  · exact ax_go (st := .int y :: .int x :: st) (st' := st) (fun _ _ _ _ _ _ _ _ _ _ _ _ _ _ _ ok C hL _ w => lv_icmp_eq C.1 C.2.1 hd ht (fun q => absurd q hc) (fun _ => w)) (kf hc)
theorem ax_icmp_eqT {x y : Int32} {off : Int} (tgt : Nat) (hd : decode M.2.1 pc = .ok (.if_icmp .eq off, 3)) (ht : (pc : Int) + off = (tgt : Int)) (hc : x = y) (kt : ax_X old G d M tgt lv st h Q) : ax_X old G d M pc lv (.int y :: .int x :: st) h Q := ax_icmp_eq tgt hd ht (fun _ => kt) (fun q => absurd hc q)
theorem ax_icmp_eqF {x y : Int32} {off : Int} (tgt : Nat) (hd : decode M.2.1 pc = .ok (.if_icmp .eq off, 3)) (ht : (pc : Int) + off = (tgt : Int)) (hc : ¬ x = y) (kf : ax_X old G d M (pc + 3) lv st h Q) : ax_X old G d M pc lv (.int y :: .int x :: st) h Q := ax_icmp_eq tgt hd ht (fun q => absurd q hc) (fun _ => kf)
theorem ax_if_ne {x : Int32} {off : Int} (tgt : Nat) (hd : decode M.2.1 pc = .ok (.ifCond .ne off, 3)) (ht : (pc : Int) + off = (tgt : Int)) (kt : ¬ x = 0 → ax_X old G d M tgt lv st h Q) (kf : x = 0 → ax_X old G d M (pc + 3) lv st h Q) : ax_X old G d M pc lv (.int x :: st) h Q := by
  by_cases hc : x = 0
  · exact ax_go (st := .int x :: st) (st' := st) (fun _ _ _ _ _ _ _ _ _ _ _ _ _ _ _ ok C hL _ w => lv_if_ne C.1 C.2.1 hd ht (fun q => absurd hc q) (fun _ => w)) (kf hc)
  · exact ax_go (st := .int x :: st) (st' := st) (fun _ _ _ _ _ _ _ _ _ _ _ _ _ _ _ ok C hL _ w => lv_if_ne C.1 C.2.1 hd ht (fun _ => w) (fun q => absurd q hc)) (kt hc)
theorem ax_if_neT {x : Int32} {off : Int} (tgt : Nat) (hd : decode M.2.1 pc = .ok (.ifCond .ne off, 3)) (ht : (pc : Int) + off = (tgt : Int)) (hc : ¬ x = 0) (kt : ax_X old G d M tgt lv st h Q) : ax_X old G d M pc lv (.int x :: st) h Q := ax_if_ne tgt hd ht (fun _ => kt) (fun q => absurd q hc)
theorem ax_if_neF {x : Int32} {off : Int} (tgt : Nat) (hd : decode M.2.1 pc = .ok (.ifCond .ne off, 3)) (ht : (pc : Int) + off = (tgt : Int)) (hc : x = 0) (kf : ax_X old G d M (pc + 3) lv st h Q) : ax_X old G d M pc lv (.int x :: st) h Q := ax_if_ne tgt hd ht (fun q => absurd hc q) (fun _ => kf)
theorem ax_icmp_ne {x y : Int32} {off : Int} (tgt : Nat) (hd : decode M.2.1 pc = .ok (.if_icmp .ne off, 3)) (ht : (pc : Int) + off = (tgt : Int)) (kt : ¬ x = y → ax_X old G d M tgt lv st h Q) (kf : x = y → ax_X old G d M (pc + 3) lv st h Q) : ax_X old G d M pc lv (.int y :: .int x :: st) h Q := by
  by_cases hc : x = y
  · exact ax_go (st := .int y :: .int x :: st) (st' := st) (fun _ _ _ _ _ _ _ _ _ _ _ _ _ _ _ ok C hL _ w => lv_icmp_ne C.1 C.2.1 hd ht (fun q => absurd hc q) (fun _ => w)) (kf hc)
  · exact ax_go (st := .int y :: .int x :: st) (st' := st) (fun _ _ _ _ _ _ _ _ _ _ _ _ _ _ _ ok C hL _ w => lv_icmp_ne C.1 C.2.1 hd ht (fun _ => w) (fun q => absurd q hc)) (kt hc)
theorem ax_icmp_neT {x y : Int32} {off : Int} (tgt : Nat) (hd : decode M.2.1 pc = .ok (.if_icmp .ne off, 3)) (ht : (pc : Int) + off = (tgt : Int)) (hc : ¬ x = y) (kt : ax_X old G d M tgt lv st h Q) : ax_X old G d M pc lv (.int y :: .int x :: st) h Q := ax_icmp_ne tgt hd ht (fun _ => kt) (fun q => absurd q hc)
theorem ax_icmp_neF {x y : Int32} {off : Int} (tgt : Nat) (hd : decode M.2.1 pc = .ok (.if_icmp .ne off, 3)) (ht : (pc : Int) + off = (tgt : Int)) (hc : x = y) (kf : ax_X old G d M (pc + 3) lv st h Q) : ax_X old G d M pc lv (.int y :: .int x :: st) h Q := ax_icmp_ne tgt hd ht (fun q => absurd hc q) (fun _ => kf)
theorem ax_if_lt {x : Int32} {off : Int} (tgt : Nat) (hd : decode M.2.1 pc = .ok (.ifCond .lt off, 3)) (ht : (pc : Int) + off = (tgt : Int)) (kt : x < 0 → ax_X old G d M tgt lv st h Q) (kf : ¬ x < 0 → ax_X old G d M (pc + 3) lv st h Q) : ax_X old G d M pc lv (.int x :: st) h Q := by
  by_cases hc : x < 0
  · exact ax_go (st := .int x :: st) (st' := st) (fun _ _ _ _ _ _ _ _ _ _ _ _ _ _ _ ok C hL _ w => lv_if_lt C.1 C.2.1 hd ht (fun _ => w) (fun q => absurd hc q)) (kt hc)
  · exact ax_go (st := .int x :: st) (st' := st) (fun _ _ _ _ _ _ _ _ _ _ _ _ _ _ _ ok C hL _ w => lv_if_lt C.1 C.2.1 hd ht (fun q => absurd q hc) (fun _ => w)) (kf hc)
theorem ax_if_ltT {x : Int32} {off : Int} (tgt : Nat) (hd : decode M.2.1 pc = .ok (.ifCond .lt off, 3)) (ht : (pc : Int) + off = (tgt : Int)) (hc : x < 0) (kt : ax_X old G d M tgt lv st h Q) : ax_X old G d M pc lv (.int x :: st) h Q := ax_if_lt tgt hd ht (fun _ => kt) (fun q => absurd hc q)
theorem ax_if_ltF {x : Int32} {off : Int} (tgt : Nat) (hd : decode M.2.1 pc = .ok (.ifCond .lt off, 3)) (ht : (pc : Int) + off = (tgt : Int)) (hc : ¬ x < 0) (kf : ax_X old G d M (pc + 3) lv st h Q) : ax_X old G d M pc lv (.int x :: st) h Q := ax_if_lt tgt hd ht (fun q => absurd q hc) (fun _ => kf)
theorem ax_icmp_lt {x y : Int32} {off : Int} (tgt : Nat) (hd : decode M.2.1 pc = .ok (.if_icmp .lt off, 3)) (ht : (pc : Int) + off = (tgt : Int)) (kt : x < y → ax_X old G d M tgt lv st h Q) (kf : ¬ x < y → ax_X old G d M (pc + 3) lv st h Q) : ax_X old G d M pc lv (.int y :: .int x :: st) h Q := by
  by_cases hc : x < y
  · exact ax_go (st := .int y :: .int x :: st) (st' := st) (fun _ _ _ _ _ _ _ _ _ _ _ _ _ _ _ ok C hL _ w => lv_icmp_lt C.1 C.2.1 hd ht (fun _ => w) (fun q => absurd hc q)) (kt hc)
  · exact ax_go (st := .int y :: .int x :: st) (st' := st) (fun _ _ _ _ _ _ _ _ _ _ _ _ _ _ _ ok C hL _ w => lv_icmp_lt C.1 C.2.1 hd ht (fun q => absurd q hc) (fun _ => w)) (kf hc)
theorem ax_icmp_ltT {x y : Int32} {off : Int} (tgt : Nat) (hd : decode M.2.1 pc = .ok (.if_icmp .lt off, 3)) (ht : (pc : Int) + off = (tgt : Int)) (hc : x < y) (kt : ax_X old G d M tgt lv st h Q) : ax_X old G d M pc lv (.int y :: .int x :: st) h Q := ax_icmp_lt tgt hd ht (fun _ => kt) (fun q => absurd hc q)
theorem ax_icmp_ltF {x y : Int32} {off : Int} (tgt : Nat) (hd : decode M.2.1 pc = .ok (.if_icmp .lt off, 3)) (ht : (pc : Int) + off = (tgt : Int)) (hc : ¬ x < y) (kf : ax_X old G d M (pc + 3) lv st h Q) : ax_X old G d M pc lv (.int y :: .int x :: st) h Q := ax_icmp_lt tgt hd ht (fun q => absurd q hc) (fun _ => kf)
theorem ax_if_ge {x : Int32} {off : Int} (tgt : Nat) (hd : decode M.2.1 pc = .ok (.ifCond .ge off, 3)) (ht : (pc : Int) + off = (tgt : Int)) (kt : 0 ≤ x → ax_X old G d M tgt lv st h Q) (kf : ¬ 0 ≤ x → ax_X old G d M (pc + 3) lv st h Q) : ax_X old G d M pc lv (.int x :: st) h Q := by
  by_cases hc : 0 ≤ x
  · exact ax_go (st := .int x :: st) (st' := st) (fun _ _ _ _ _ _ _ _ _ _ _ _ _ _ _ ok C hL _ w => lv_if_ge C.1 C.2.1 hd ht (fun _ => w) (fun q => absurd hc q)) (kt hc)
  · exact ax_go (st := .int x :: st) (st' := st) (fun _ _ _ _ _ _ _ _ _ _ _ _ _ _ _ ok C hL _ w => lv_if_ge C.1 C.2.1 hd ht (fun q => absurd q hc) (fun _ => w)) (kf hc)
theorem ax_if_geT {x : Int32} {off : Int} (tgt : Nat) (hd : decode M.2.1 pc = .ok (.ifCond .ge off, 3)) (ht : (pc : Int) + off = (tgt : Int)) (hc : 0 ≤ x) (kt : ax_X old G d M tgt lv st h Q) : ax_X old G d M pc lv (.int x :: st) h Q := ax_if_ge tgt hd ht (fun _ => kt) (fun q => absurd hc q)
theorem ax_if_geF {x : Int32} {off : Int} (tgt : Nat) (hd : decode M.2.1 pc = .ok (.ifCond .ge off, 3)) (ht : (pc : Int) + off = (tgt : Int)) (hc : ¬ 0 ≤ x) (kf : ax_X old G d M (pc + 3) lv st h Q) : ax_X old G d M pc lv (.int x :: st) h Q := ax_if_ge tgt hd ht (fun q => absurd q hc) (fun _ => kf)
theorem ax_icmp_ge {x y : Int32} {off : Int} (tgt : Nat) (hd : decode M.2.1 pc = .ok (.if_icmp .ge off, 3)) (ht : (pc : Int) + off = (tgt : Int)) (kt : y ≤ x → ax_X old G d M tgt lv st h Q) (kf : ¬ y ≤ x → ax_X old G d M (pc + 3) lv st h Q) : ax_X old G d M pc lv (.int y :: .int x :: st) h Q := by
  by_cases hc : y ≤ x
  · exact ax_go (st := .int y :: .int x :: st) (st' := st) (fun _ _ _ _ _ _ _ _ _ _ _ _ _ _ _ ok C hL _ w => lv_icmp_ge C.1 C.2.1 hd ht (fun _ => w) (fun q => absurd hc q)) (kt hc)
  · exact ax_go (st := .int y :: .int x :: st) (st' := st) (fun _ _ _ _ _ _ _ _ _ _ _ _ _ _ _ ok C hL _ w => lv_icmp_ge C.1 C.2.1 hd ht (fun q => absurd q hc) (fun _ => w)) (kf hc)
theorem ax_icmp_geT {x y : Int32} {off : Int} (tgt : Nat) (hd : decode M.2.1 pc = .ok (.if_icmp .ge off, 3)) (ht : (pc : Int) + off = (tgt : Int)) (hc : y ≤ x) (kt : ax_X old G d M tgt lv st h Q) : ax_X old G d M pc lv (.int y :: .int x :: st) h Q := ax_icmp_ge tgt hd ht (fun _ => kt) (fun q => absurd hc q)
theorem ax_icmp_geF {x y : Int32} {off : Int} (tgt : Nat) (hd : decode M.2.1 pc = .ok (.if_icmp .ge off, 3)) (ht : (pc : Int) + off = (tgt : Int)) (hc : ¬ y ≤ x) (kf : ax_X old G d M (pc + 3) lv st h Q) : ax_X old G d M pc lv (.int y :: .int x :: st) h Q := ax_icmp_ge tgt hd ht (fun q => absurd q hc) (fun _ => kf)
theorem ax_if_gt {x : Int32} {off : Int} (tgt : Nat) (hd : decode M.2.1 pc = .ok (.ifCond .gt off, 3)) (ht : (pc : Int) + off = (tgt : Int)) (kt : 0 < x → ax_X old G d M tgt lv st h Q) (kf : ¬ 0 < x → ax_X old G d M (pc + 3) lv st h Q) : ax_X old G d M pc lv (.int x :: st) h Q := by
  by_cases hc : 0 < x
  · exact ax_go (st := .int x :: st) (st' := st) (fun _ _ _ _ _ _ _ _ _ _ _ _ _ _ _ ok C hL _ w => lv_if_gt C.1 C.2.1 hd ht (fun _ => w) (fun q => absurd hc q)) (kt hc)
  · exact ax_go (st := .int x :: st) (st' := st) (fun _ _ _ _ _ _ _ _ _ _ _ _ _ _ _ ok C hL _ w => lv_if_gt C.1 C.2.1 hd ht (fun q => absurd q hc) (fun _ => w)) (kf hc)
theorem ax_if_gtT {x : Int32} {off : Int} (tgt : Nat) (hd : decode M.2.1 pc = .ok (.ifCond .gt off, 3)) (ht : (pc : Int) + off = (tgt : Int)) (hc : 0 < x) (kt : ax_X old G d M tgt lv st h Q) : ax_X old G d M pc lv (.int x :: st) h Q := ax_if_gt tgt hd ht (fun _ => kt) (fun q => absurd hc q)
theorem ax_if_gtF {x : Int32} {off : Int} (tgt : Nat) (hd : decode M.2.1 pc = .ok (.ifCond .gt off, 3)) (ht : (pc : Int) + off = (tgt : Int)) (hc : ¬ 0 < x) (kf : ax_X old G d M (pc + 3) lv st h Q) : ax_X old G d M pc lv (.int x :: st) h Q := ax_if_gt tgt hd ht (fun q => absurd q hc) (fun _ => kf)
theorem ax_icmp_gt {x y : Int32} {off : Int} (tgt : Nat) (hd : decode M.2.1 pc = .ok (.if_icmp .gt off, 3)) (ht : (pc : Int) + off = (tgt : Int)) (kt : y < x → ax_X old G d M tgt lv st h Q) (kf : ¬ y < x → ax_X old G d M (pc + 3) lv st h Q) : ax_X old G d M pc lv (.int y :: .int x :: st) h Q := by
  by_cases hc : y < x
  · exact ax_go (st := .int y :: .int x :: st) (st' := st) (fun _ _ _ _ _ _ _ _ _ _ _ _ _ _ _ ok C hL _ w => lv_icmp_gt C.1 C.2.1 hd ht (fun _ => w) (fun q => absurd hc q)) (kt hc)
  · exact ax_go (st := .int y :: .int x :: st) (st' := st) (fun _ _ _ _ _ _ _ _ _ _ _ _ _ _ _ ok C hL _ w => lv_icmp_gt C.1 C.2.1 hd ht (fun q => absurd q hc) (fun _ => w)) (kf hc)
theorem ax_icmp_gtT {x y : Int32} {off : Int} (tgt : Nat) (hd : decode M.2.1 pc = .ok (.if_icmp .gt off, 3)) (ht : (pc : Int) + off = (tgt : Int)) (hc : y < x) (kt : ax_X old G d M tgt lv st h Q) : ax_X old G d M pc lv (.int y :: .int x :: st) h Q := ax_icmp_gt tgt hd ht (fun _ => kt) (fun q => absurd hc q)
theorem ax_icmp_gtF {x y : Int32} {off : Int} (tgt : Nat) (hd : decode M.2.1 pc = .ok (.if_icmp .gt off, 3)) (ht : (pc : Int) + off = (tgt : Int)) (hc : ¬ y < x) (kf : ax_X old G d M (pc + 3) lv st h Q) : ax_X old G d M pc lv (.int y :: .int x :: st) h Q := ax_icmp_gt tgt hd ht (fun q => absurd q hc) (fun _ => kf)
theorem ax_if_le {x : Int32} {off : Int} (tgt : Nat) (hd : decode M.2.1 pc = .ok (.ifCond .le off, 3)) (ht : (pc : Int) + off = (tgt : Int)) (kt : x ≤ 0 → ax_X old G d M tgt lv st h Q) (kf : ¬ x ≤ 0 → ax_X old G d M (pc + 3) lv st h Q) : ax_X old G d M pc lv (.int x :: st) h Q := by
  by_cases hc : x ≤ 0
  · exact ax_go (st := .int x :: st) (st' := st) (fun _ _ _ _ _ _ _ _ _ _ _ _ _ _ _ ok C hL _ w => lv_if_le C.1 C.2.1 hd ht (fun _ => w) (fun q => absurd hc q)) (kt hc)
  · exact ax_go (st := .int x :: st) (st' := st) (fun _ _ _ _ _ _ _ _ _ _ _ _ _ _ _ ok C hL _ w => lv_if_le C.1 C.2.1 hd ht (fun q => absurd q hc) (fun _ => w)) (kf hc)
theorem ax_if_leT {x : Int32} {off : Int} (tgt : Nat) (hd : decode M.2.1 pc = .ok (.ifCond .le off, 3)) (ht : (pc : Int) + off = (tgt : Int)) (hc : x ≤ 0) (kt : ax_X old G d M tgt lv st h Q) : ax_X old G d M pc lv (.int x :: st) h Q := ax_if_le tgt hd ht (fun _ => kt) (fun q => absurd hc q)
theorem ax_if_leF {x : Int32} {off : Int} (tgt : Nat) (hd : decode M.2.1 pc = .ok (.ifCond .le off, 3)) (ht : (pc : Int) + off = (tgt : Int)) (hc : ¬ x ≤ 0) (kf : ax_X old G d M (pc + 3) lv st h Q) : ax_X old G d M pc lv (.int x :: st) h Q := ax_if_le tgt hd ht (fun q => absurd q hc) (fun _ => kf)
theorem ax_icmp_le {x y : Int32} {off : Int} (tgt : Nat) (hd : decode M.2.1 pc = .ok (.if_icmp .le off, 3)) (ht : (pc : Int) + off = (tgt : Int)) (kt : x ≤ y → ax_X old G d M tgt lv st h Q) (kf : ¬ x ≤ y → ax_X old G d M (pc + 3) lv st h Q) : ax_X old G d M pc lv (.int y :: .int x :: st) h Q := by
  by_cases hc : x ≤ y
  · exact ax_go (st := .int y :: .int x :: st) (st' := st) (fun _ _ _ _ _ _ _ _ _ _ _ _ _ _ _ ok C hL _ w => lv_icmp_le C.1 C.2.1 hd ht (fun _ => w) (fun q => absurd hc q)) (kt hc)
  · exact ax_go (st := .int y :: .int x :: st) (st' := st) (fun _ _ _ _ _ _ _ _ _ _ _ _ _ _ _ ok C hL _ w => lv_icmp_le C.1 C.2.1 hd ht (fun q => absurd q hc) (fun _ => w)) (kf hc)
theorem ax_icmp_leT {x y : Int32} {off : Int} (tgt : Nat) (hd : decode M.2.1 pc = .ok (.if_icmp .le off, 3)) (ht : (pc : Int) + off = (tgt : Int)) (hc : x ≤ y) (kt : ax_X old G d M tgt lv st h Q) : ax_X old G d M pc lv (.int y :: .int x :: st) h Q := ax_icmp_le tgt hd ht (fun _ => kt) (fun q => absurd hc q)
theorem ax_icmp_leF {x y : Int32} {off : Int} (tgt : Nat) (hd : decode M.2.1 pc = .ok (.if_icmp .le off, 3)) (ht : (pc : Int) + off = (tgt : Int)) (hc : ¬ x ≤ y) (kf : ax_X old G d M (pc + 3) lv st h Q) : ax_X old G d M pc lv (.int y :: .int x :: st) h Q := ax_icmp_le tgt hd ht (fun q => absurd q hc) (fun _ => kf)
theorem ax_tableOut {dflt lo hi : Int} {offs : Array Int} {len : Nat} {x : Int32} (tgt : Nat) (hd : decode M.2.1 pc = .ok (.tableswitch dflt lo hi offs, len)) (hx : x.toInt < lo ∨ hi < x.toInt) (ht : (pc : Int) + dflt = (tgt : Int)) (kk : ax_X old G d M tgt lv st h Q) : ax_X old G d M pc lv (.int x :: st) h Q :=
  ax_go (st := .int x :: st) (st' := st) (fun _ _ _ _ _ _ _ _ _ _ _ _ _ _ _ ok C hL _ w => lv_tableOut C.1 C.2.1 hd hx ht w) kk
theorem ax_tableIn {dflt lo hi : Int} {offs : Array Int} {len : Nat} {x : Int32} {off : Int} (tgt : Nat) (hd : decode M.2.1 pc = .ok (.tableswitch dflt lo hi offs, len)) (h1 : ¬ x.toInt < lo) (h2 : ¬ hi < x.toInt) (ho : offs[(x.toInt - lo).toNat]? = some off) (ht : (pc : Int) + off = (tgt : Int)) (kk : ax_X old G d M tgt lv st h Q) : ax_X old G d M pc lv (.int x :: st) h Q :=
  ax_go (st := .int x :: st) (st' := st) (fun _ _ _ _ _ _ _ _ _ _ _ _ _ _ _ ok C hL _ w => lv_tableIn C.1 C.2.1 hd h1 h2 ho ht w) kk
/-- stores -/
theorem ax_len1 : ∀ (lv : List (Option Value)) (i : Nat) (v : Value), (ax_st1 lv i v).length = lv.length
  | [], _, _ => rfl
  | _ :: _, 0, _ => rfl
  | _ :: [], _ + 1, _ => rfl
  | _ :: _ :: _, 1, _ => rfl
  | o :: a :: t, n + 2, v => by
    show (ax_st1 (a :: t) (n + 1) v).length + 1 = _
    rw [ax_len1 (a :: t) (n + 1) v]
    rfl
theorem ax_len2 : ∀ (lv : List (Option Value)) (i : Nat) (v : Value), (ax_st2 lv i v).length = lv.length
  | [], _, _ => rfl
  | _ :: [], _, _ => rfl
  | _ :: _ :: _, 0, _ => rfl
  | o :: b :: t, 1, v => by
    show (ax_st2 (b :: t) 0 v).length + 1 = _
    rw [ax_len2 (b :: t) 0 v]
    rfl
  | o :: a :: t, n + 2, v => by
    show (ax_st2 (a :: t) (n + 1) v).length + 1 = _
    rw [ax_len2 (a :: t) (n + 1) v]
    rfl
theorem ax_c2_cat {v : Value} (hc : ax_c2 (some v) = false) : v.category = 1 := by cases v <;> first | rfl | cases hc
theorem ax_get1 : ∀ (lv : List (Option Value)) (i : Nat) (v : Value) (j : Nat) (w : Value), (ax_st1 lv i v)[j]? = some (some w) → i < lv.length → (j = i ∧ w = v) ∨ (lv[j]? = some (some w) ∧ j ≠ i ∧ ¬ (j + 1 = i ∧ w.category = 2))
  | [], i, v, j, w, _, hi => absurd hi (Nat.not_lt_zero _)
  | o :: t, 0, v, 0, w, hj, hi => by cases hj; exact Or.inl ⟨rfl, rfl⟩
  | o :: t, 0, v, j + 1, w, hj, hi => Or.inr ⟨hj, by omega, by omega⟩
  | o :: [], i + 1, v, j, w, hj, hi => by simp at hi
  | o :: a :: t, 1, v, 0, w, hj, hi => by
    refine Or.inr ?_
    cases hc : ax_c2 o with
    | true => simp [ax_st1, hc] at hj
    | false =>
      simp only [ax_st1, hc, List.getElem?_cons_zero, Option.some.injEq] at hj
      subst hj
      exact ⟨rfl, by omega, fun q => by have := ax_c2_cat hc; omega⟩
  | o :: a :: t, 1, v, 1, w, hj, hi => by
    have e : (ax_st1 (o :: a :: t) 1 v)[1]? = some (some v) := rfl
    rw [e] at hj; cases hj; exact Or.inl ⟨rfl, rfl⟩
  | o :: a :: t, 1, v, j + 2, w, hj, hi => Or.inr ⟨hj, by omega, by omega⟩
  | o :: a :: t, n + 2, v, 0, w, hj, hi => Or.inr ⟨hj, by omega, by omega⟩
  | o :: a :: t, n + 2, v, j + 1, w, hj, hi => by
    have e : (ax_st1 (o :: a :: t) (n + 2) v)[j + 1]? = (ax_st1 (a :: t) (n + 1) v)[j]? := rfl
    rw [e] at hj
    rcases ax_get1 (a :: t) (n + 1) v j w hj (by simp at hi ⊢; omega) with ⟨h1, h2⟩ | ⟨h1, h2, h3⟩
    · exact Or.inl ⟨by omega, h2⟩
    · exact Or.inr ⟨h1, by omega, fun q => h3 ⟨by omega, q.2⟩⟩
theorem ax_get2 : ∀ (lv : List (Option Value)) (i : Nat) (v : Value) (j : Nat) (w : Value), (ax_st2 lv i v)[j]? = some (some w) → i + 1 < lv.length → (j = i ∧ w = v) ∨ (lv[j]? = some (some w) ∧ j ≠ i ∧ j ≠ i + 1 ∧ ¬ (j + 1 = i ∧ w.category = 2))
  | [], i, v, j, w, _, hi => absurd hi (Nat.not_lt_zero _)
  | o :: [], i, v, j, w, hj, hi => by simp at hi
  | o :: a :: t, 0, v, 0, w, hj, hi => by cases hj; exact Or.inl ⟨rfl, rfl⟩
  | o :: a :: t, 0, v, 1, w, hj, hi => by cases hj
  | o :: a :: t, 0, v, j + 2, w, hj, hi => Or.inr ⟨hj, by omega, by omega, by omega⟩
  | o :: a :: t, 1, v, 0, w, hj, hi => by
    refine Or.inr ?_
    cases hc : ax_c2 o with
    | true => simp [ax_st2, hc] at hj
    | false =>
      simp only [ax_st2, hc, List.getElem?_cons_zero, Option.some.injEq] at hj
      subst hj
      exact ⟨rfl, by omega, by omega, fun q => by have := ax_c2_cat hc; omega⟩
  | o :: a :: t, 1, v, j + 1, w, hj, hi => by
    have e : (ax_st2 (o :: a :: t) 1 v)[j + 1]? = (ax_st2 (a :: t) 0 v)[j]? := rfl
    rw [e] at hj
    rcases ax_get2 (a :: t) 0 v j w hj (by simp at hi ⊢; omega) with ⟨h1, h2⟩ | ⟨h1, h2, h3, h4⟩
    · exact Or.inl ⟨by omega, h2⟩
    · exact Or.inr ⟨h1, by omega, by omega, fun q => by omega⟩
  | o :: a :: t, n + 2, v, 0, w, hj, hi => Or.inr ⟨hj, by omega, by omega, by omega⟩
  | o :: a :: t, n + 2, v, j + 1, w, hj, hi => by
    have e : (ax_st2 (o :: a :: t) (n + 2) v)[j + 1]? = (ax_st2 (a :: t) (n + 1) v)[j]? := rfl
    rw [e] at hj
    rcases ax_get2 (a :: t) (n + 1) v j w hj (by simp at hi ⊢; omega) with ⟨h1, h2⟩ | ⟨h1, h2, h3, h4⟩
    · exact Or.inl ⟨by omega, h2⟩
    · exact Or.inr ⟨h1, by omega, by omega, fun q => h4 ⟨by omega, q.2⟩⟩
/-- the kit's list of locals, by places -/
def ax_ps (G : ax_G) (lv : List (Option Value)) : List (Nat × Value) := (List.range lv.length).filterMap (fun j => (lv[j]?.join).map (fun v => (j, ax_v G v)))
theorem ax_ps_mem {q : Nat × Value} : q ∈ ax_ps G lv ↔ ∃ v : Value, lv[q.1]? = some (some v) ∧ q.2 = ax_v G v := by
  unfold ax_ps
  rw [List.mem_filterMap]
  constructor
  · rintro ⟨j, hj, e⟩
    cases hv : lv[j]? with
    | none => rw [hv] at e; cases e
    | some o =>
      cases o with
      | none => rw [hv] at e; cases e
      | some v =>
        rw [hv] at e
        cases e
        exact ⟨v, hv, rfl⟩
  · rintro ⟨v, h1, h2⟩
    refine ⟨q.1, List.mem_range.mpr (List.getElem?_eq_some_iff.mp h1).1, ?_⟩
    rw [h1]
    obtain ⟨a, b⟩ := q
    simp only at h2
    subst h2
    rfl
theorem ax_L.has {ls : Array Slot} (hL : ax_L G ls lv) : lv_has ls lv.length (ax_ps G lv) := ⟨hL.1, hL.2.1, fun q hq => by
  obtain ⟨v, h1, h2⟩ := ax_ps_mem.mp hq
  rw [h2]
  exact hL.2.2 q.1 v h1⟩
theorem ax_L.store1 {ls' : Array Slot} {i : Nat} {v : Value} (hi : i < lv.length) (h : lv_has ls' lv.length ((i, ax_v G v) :: (ax_ps G lv).filter (fun q => !(q.1 == i) && !(q.1 + 1 == i && q.2.category == 2)))) : ax_L G ls' (ax_st1 lv i v) := by
  refine ⟨by rw [ax_len1]; exact h.1, h.2.1, fun j w hj => ?_⟩
  rcases ax_get1 lv i v j w hj hi with ⟨rfl, rfl⟩ | ⟨h1, h2, h3⟩
  · exact h.2.2 _ List.mem_cons_self
  · refine h.2.2 (j, ax_v G w) (List.mem_cons_of_mem _ (List.mem_filter.mpr ⟨ax_ps_mem.mpr ⟨w, h1, rfl⟩, ?_⟩))
    simp only [ax_cat]
    simp only [Bool.and_eq_true, Bool.not_eq_true', beq_eq_false_iff_ne, ne_eq, Bool.and_eq_false_iff]
    exact ⟨h2, by omega⟩
theorem ax_L.store2 {ls' : Array Slot} {i : Nat} {v : Value} (hi : i + 1 < lv.length) (h : lv_has ls' lv.length ((i, ax_v G v) :: (ax_ps G lv).filter (fun q => !(q.1 == i) && (!(q.1 == i + 1) && !(q.1 + 1 == i && q.2.category == 2))))) : ax_L G ls' (ax_st2 lv i v) := by
  refine ⟨by rw [ax_len2]; exact h.1, h.2.1, fun j w hj => ?_⟩
  rcases ax_get2 lv i v j w hj hi with ⟨rfl, rfl⟩ | ⟨h1, h2, h4, h3⟩
  · exact h.2.2 _ List.mem_cons_self
  · refine h.2.2 (j, ax_v G w) (List.mem_cons_of_mem _ (List.mem_filter.mpr ⟨ax_ps_mem.mpr ⟨w, h1, rfl⟩, ?_⟩))
    simp only [ax_cat]
    simp only [Bool.and_eq_true, Bool.not_eq_true', beq_eq_false_iff_ne, ne_eq, Bool.and_eq_false_iff]
    exact ⟨h2, h4, by omega⟩
/-- a step that changes the locals alone -/
theorem ax_goL {pc' : Nat} {st' : List Value} {lv' : List (Option Value)} (hk : ∀ (p : Program) (e : Env) (R : Room) (s : State) (m : MethodId) (args : Array Value) (below : List Frame) (meth : Method) (c : Code) (H : Heap) (locs : List Loc) (cells slots : Nat) (Qf : State → Prop) (ls : Array Slot), ax_C G d M p R s m meth c → ax_L G ls lv →
      (∀ ls' : Array Slot, ax_L G ls' lv' → W p (gl G) e R s m args below meth c H locs cells slots Qf (F0 m pc' ls' (st'.map (ax_v G)))) → W p (gl G) e R s m args below meth c H locs cells slots Qf (F0 m pc ls (st.map (ax_v G))))
    (k : ax_X old G d M pc' lv' st' h Q) : ax_X old G d M pc lv st h Q := by
  obtain ⟨o, h', hq, h1, h2, k⟩ := k
  exact ⟨o, h', hq, h1, h2, fun ok p e R s m args below meth c C n0 s0 g1 g2 g3 g4 Qf hE H locs ls hR hl hL => hk p e R s m args below meth c H locs _ _ Qf ls C hL (fun ls' hL' => k ok p e R s m args below meth c C n0 s0 g1 g2 g3 g4 Qf hE H locs ls' hR hl hL')⟩
theorem ax_istore_n {k : Fin 4} {x : Int32} (hd : decode M.2.1 pc = .ok (.istore_n k, 1)) (hi : (k : Nat) < lv.length) (kk : ax_X old G d M (pc + 1) (ax_st1 lv (k : Nat) (.int x)) st h Q) : ax_X old G d M pc lv (.int x :: st) h Q :=
  ax_goL (st := .int x :: st) (st' := st) (fun _ _ _ _ _ _ _ _ _ _ _ _ _ _ _ C hL w => lv_istore_n C.1 C.2.1 hd rfl hL.has hi rfl (fun ls' h' => w ls' (ax_L.store1 (v := .int x) hi h'))) kk
theorem ax_istore {i : Nat} {x : Int32} (hd : decode M.2.1 pc = .ok (.istore i, 2)) (hi : i < lv.length) (kk : ax_X old G d M (pc + 2) (ax_st1 lv i (.int x)) st h Q) : ax_X old G d M pc lv (.int x :: st) h Q :=
  ax_goL (st := .int x :: st) (st' := st) (fun _ _ _ _ _ _ _ _ _ _ _ _ _ _ _ C hL w => lv_istore C.1 C.2.1 hd hL.has hi rfl (fun ls' h' => w ls' (ax_L.store1 (v := .int x) hi h'))) kk
theorem ax_lstore_n {k : Fin 4} {x : Int64} (hd : decode M.2.1 pc = .ok (.lstore_n k, 1)) (hi : (k : Nat) + 1 < lv.length) (kk : ax_X old G d M (pc + 1) (ax_st2 lv (k : Nat) (.long x)) st h Q) : ax_X old G d M pc lv (.long x :: st) h Q :=
  ax_goL (st := .long x :: st) (st' := st) (fun _ _ _ _ _ _ _ _ _ _ _ _ _ _ _ C hL w => lv_lstore_n C.1 C.2.1 hd rfl hL.has hi rfl (fun ls' h' => w ls' (ax_L.store2 (v := .long x) hi h'))) kk
theorem ax_lstore {i : Nat} {x : Int64} (hd : decode M.2.1 pc = .ok (.lstore i, 2)) (hi : i + 1 < lv.length) (kk : ax_X old G d M (pc + 2) (ax_st2 lv i (.long x)) st h Q) : ax_X old G d M pc lv (.long x :: st) h Q :=
  ax_goL (st := .long x :: st) (st' := st) (fun _ _ _ _ _ _ _ _ _ _ _ _ _ _ _ C hL w => lv_lstore C.1 C.2.1 hd hL.has hi rfl (fun ls' h' => w ls' (ax_L.store2 (v := .long x) hi h'))) kk
theorem ax_astore_n {k : Fin 4} {x : Nat} (hd : decode M.2.1 pc = .ok (.astore_n k, 1)) (hi : (k : Nat) < lv.length) (kk : ax_X old G d M (pc + 1) (ax_st1 lv (k : Nat) (.ref x)) st h Q) : ax_X old G d M pc lv (.ref x :: st) h Q :=
  ax_goL (st := .ref x :: st) (st' := st) (fun _ _ _ _ _ _ _ _ _ _ _ _ _ _ _ C hL w => lv_astore_n C.1 C.2.1 hd rfl hL.has hi rfl (fun ls' h' => w ls' (ax_L.store1 (v := .ref x) hi h'))) kk
theorem ax_astore {i : Nat} {x : Nat} (hd : decode M.2.1 pc = .ok (.astore i, 2)) (hi : i < lv.length) (kk : ax_X old G d M (pc + 2) (ax_st1 lv i (.ref x)) st h Q) : ax_X old G d M pc lv (.ref x :: st) h Q :=
  ax_goL (st := .ref x :: st) (st' := st) (fun _ _ _ _ _ _ _ _ _ _ _ _ _ _ _ C hL w => lv_astore C.1 C.2.1 hd hL.has hi rfl (fun ls' h' => w ls' (ax_L.store1 (v := .ref x) hi h'))) kk
theorem ax_iinc {i : Nat} {n : Int} {x v : Int32} (hd : decode M.2.1 pc = .ok (.iinc i n, 3)) (hl : lv[i]? = some (some (.int x))) (hv : x + Int32.ofInt n = v) (kk : ax_X old G d M (pc + 3) (ax_st1 lv i (.int v)) st h Q) : ax_X old G d M pc lv st h Q :=
  ax_goL (fun _ _ _ _ _ _ _ _ _ _ _ _ _ _ _ C hL w => by
    have hi : i < lv.length := (List.getElem?_eq_some_iff.mp hl).1
    obtain ⟨k, hk⟩ := List.getElem?_of_mem (ax_ps_mem.mpr ⟨.int x, hl, rfl⟩ : (i, Value.int x) ∈ ax_ps G lv)
    exact lv_iinc C.1 C.2.1 hd hL.has hk hv hi rfl (fun ls' h' => w ls' (ax_L.store1 (v := .int v) hi h'))) kk
/-- returns -/
theorem ax_retn {r : Option Value} {i : Instr} (hd : decode M.2.1 pc = .ok (i, 1)) (hr : ax_ret M.2.2.2 i r) (hst : st = r.toList) (hq : Q (.inl r) h) : ax_X old G d M pc lv st h Q := by
  refine ⟨.inl r, h, hq, Nat.le_refl _, Nat.le_refl _, fun ok p e R s m args below meth c C n0 s0 g1 g2 g3 g4 Qf hE H locs ls hR hl hL => ?_⟩
  subst hst
  have e1 : (r.toList.map (ax_v G)) = (r.map (ax_v G)).toList := by cases r <;> rfl
  rw [e1]
  exact hE H locs pc ls i hR hl hr hd
theorem ax_ireturn {x : Int32} (hd : decode M.2.1 pc = .ok (.ireturn, 1)) (hr : M.2.2.2 = some .int) (hq : Q (.inl (some (.int x))) h) : ax_X old G d M pc lv [.int x] h Q := ax_retn hd (Or.inl ⟨x, rfl, rfl, Or.inl hr⟩) rfl hq
theorem ax_zreturn {x : Int32} (hd : decode M.2.1 pc = .ok (.ireturn, 1)) (hr : M.2.2.2 = some .boolean) (hx : x = 0 ∨ x = 1) (hq : Q (.inl (some (.int x))) h) : ax_X old G d M pc lv [.int x] h Q := ax_retn hd (Or.inl ⟨x, rfl, rfl, Or.inr ⟨hr, hx⟩⟩) rfl hq
theorem ax_lreturn {x : Int64} (hd : decode M.2.1 pc = .ok (.lreturn, 1)) (hr : M.2.2.2 = some .long) (hq : Q (.inl (some (.long x))) h) : ax_X old G d M pc lv [.long x] h Q := ax_retn hd (Or.inr (Or.inl ⟨x, rfl, rfl, hr⟩)) rfl hq
theorem ax_areturn {k : Nat} {C : String} (hd : decode M.2.1 pc = .ok (.areturn, 1)) (hr : M.2.2.2 = some (.object C)) (hq : Q (.inl (some (.ref k))) h) : ax_X old G d M pc lv [.ref k] h Q := ax_retn hd (Or.inr (Or.inr (Or.inl ⟨k, C, rfl, rfl, hr⟩))) rfl hq
theorem ax_return {Q : ax_O → ax_H → Prop} (hd : decode M.2.1 pc = .ok (.return_, 1)) (hr : M.2.2.2 = none) (hq : Q (.inl none) h) : ax_X old G d M pc lv [] h Q := ax_retn hd (Or.inr (Or.inr (Or.inr ⟨rfl, rfl, hr⟩))) rfl hq
/-- what is owed may be weakened -/
theorem ax_post {Q' : ax_O → ax_H → Prop} (k : ax_X old G d M pc lv st h Q') (hq : ∀ o h', Q' o h' → Q o h') : ax_X old G d M pc lv st h Q := by
  obtain ⟨o, h', q, k⟩ := k
  exact ⟨o, h', hq o h' q, k⟩
end AMO
