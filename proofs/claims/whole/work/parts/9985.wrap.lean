/-! ===== the law's wrappers ===== -/
section WRP
variable {G : ax_G} {d : Nat} {h : ax_H} {Q : ax_O → ax_H → Prop} {N : Nt} {σ : Sd}
abbrev mL_law : ax_M := (yL_law, cL_law, 7, some .boolean)
abbrev mL_cost : ax_M := (yL_cost, cL_cost, 4, some .int)
abbrev mL_newcomer : ax_M := (yL_newcomer, cL_newcomer, 9, some .int)
abbrev mL_swept : ax_M := (yL_swept, cL_swept, 5, some .int)
theorem mwL_cost : ax_mw mL_cost 3 := ⟨⟨List.mem_of_getElem? (i := 1017) (by decide +kernel), by decide +kernel⟩, ⟨List.mem_of_getElem? (i := 102) (by decide +kernel), by decide +kernel⟩, by decide +kernel, by decide +kernel, by decide +kernel, by decide, ⟨rfl, Or.inl rfl⟩, rfl⟩
theorem mtL_cost : ax_g (.static yL_cost) := ⟨List.mem_of_getElem? (i := 1016) (by decide +kernel), by decide +kernel⟩
theorem mwL_newcomer : ax_mw mL_newcomer 8 := ⟨⟨List.mem_of_getElem? (i := 1091) (by decide +kernel), by decide +kernel⟩, ⟨List.mem_of_getElem? (i := 102) (by decide +kernel), by decide +kernel⟩, by decide +kernel, by decide +kernel, by decide +kernel, by decide, ⟨rfl, Or.inr (Or.inl rfl)⟩, rfl⟩
theorem mtL_newcomer : ax_g (.static yL_newcomer) := ⟨List.mem_of_getElem? (i := 1090) (by decide +kernel), by decide +kernel⟩
theorem mwL_swept : ax_mw mL_swept 4 := ⟨⟨List.mem_of_getElem? (i := 1108) (by decide +kernel), by decide +kernel⟩, ⟨List.mem_of_getElem? (i := 102) (by decide +kernel), by decide +kernel⟩, by decide +kernel, by decide +kernel, by decide +kernel, by decide, ⟨rfl, Or.inr (Or.inr rfl)⟩, rfl⟩
theorem mtL_swept : ax_g (.static yL_swept) := ⟨List.mem_of_getElem? (i := 1107) (by decide +kernel), by decide +kernel⟩
/-- what was made is little, and what P does not name is as it was -/
def Gw (h h' : ax_H) (P : Nat → Prop) : Prop := h.1 ≤ h'.1 ∧ h'.1 ≤ h.1 + 9 ∧ h'.2.1 ≤ h.2.1 + 2200 ∧ ∀ j, ¬ P j → h'.2.2 j = h.2.2 j
theorem But.gw {h' : ax_H} {P : Nat → Prop} (a : But h h' P) : Gw h h' P := ⟨Nat.le_of_eq a.1.symm, by rw [a.1]; omega, by rw [a.2.1]; omega, a.2.2⟩
theorem Cs.kept' {h' : ax_H} (a : Cs h N σ) (hk : ∀ j, 64 ≤ j → j ≤ 144 → h'.2.2 j = h.2.2 j) : Cs h' N σ := by
  obtain ⟨⟨dr, e64⟩, hL, hE, hA, hT, hS⟩ := a
  exact ⟨⟨dr, (hk 64 (by omega) (by omega)).trans e64⟩, hL.kept (fun j z1 z2 => hk j (by omega) (by omega)), hE.kept (fun j z1 z2 => hk j (by omega) (by omega)), hA.kept (fun j z1 z2 => hk j (by omega) (by omega)), hT.kept (fun j z1 z2 => hk j (by omega) (by omega)), hS.kept (fun j z1 z2 => hk j (by omega) (by omega))⟩
theorem w_cost {x : Int32}  {f : Nat → Int64} (hT : Thr G) (hN : nOK N) (hO : sOK N σ) (hC : Cs h N σ) (e167 : h.2.2 167 = some (eJ 1 f))
    (hq : ∀ v h', qCost N σ x = some v → Gw h h' (fun j => trP j ∨ j = 167) → Cs h' N σ → h'.2.2 167 = some (eJ 1 (vp_updL f 0 v.toInt64)) → Q (.inl (some (.int 0))) h')
    (hx : qCost N σ x = none → ∀ h', Gw h h' trP → Cs h' N σ → Q (.inl (some (.int 1))) h') : X G (d + 7) mL_cost 0 (ax_in 4 [.ref 64, .int x, .ref 167]) [] h Q := by
  obtain ⟨⟨dr, e64⟩, -⟩ := id hC
  refine ax_aload_n dL_cost_0 rfl ?_
  refine ax_iconst dL_cost_1 (v := nI 0) (by decide) ?_
  refine ax_aload_n dL_cost_2 rfl ?_
  refine ax_iload_n dL_cost_3 rfl ?_
  refine ax_callVT (pcB := 13) (rest := [.int (nI 0), .ref 167]) dL_cost_4 mmX11_cost lkL_7 miX11_cost msX11_cost (ax_recv_of e64 rfl) rfl rfl (Nat.le_of_ble_eq_true rfl) (Nat.le_of_ble_eq_true rfl) rfl rfl mwL_cost.2.2.2.2.2.2.1 rfl (by decide) (Or.inl ⟨3, dL_cost_12, Nat.le_of_ble_eq_true rfl, rfl⟩) (fun o h1 => (∃ v, (qCost N σ x = some v) ∧ o = .inl (some (.int v)) ∧ But h h1 trP ∧ Cs h1 N σ) ∨ ((qCost N σ x = none) ∧ ∃ h', But h h' trP ∧ Cs h' N σ ∧ o = .inr h'.1 ∧ h1 = (h'.1 + 1, h'.2.1 + 6, h'.2.2))) (c_cost (d := d) hT hN hO hC (fun v h' z b c => Or.inl ⟨v, z, rfl, b, c⟩) (fun z h' b c => Or.inr ⟨z, h', b, c, rfl, rfl⟩)) ?_
  rintro o h1 (⟨v, z, rfl, hb, hC1⟩ | ⟨z, h', hb, hC1, rfl, rfl⟩)
  · refine Or.inl ⟨_, rfl, ?_⟩
    have e167 := (hb.2.2 167 (by unfold trP; omega)).trans e167
    show X G (d + 7) mL_cost 7 _ [.int v, .int (nI 0), .ref 167] h1 Q
    refine ax_i2l dL_cost_7 ?_
    refine ax_last dL_cost_8 e167 (ax_ix_nI (j := 0) (by decide) (by decide)) ?_
    refine ax_goto 15 dL_cost_9 (by decide) ?_
    refine ax_iconst dL_cost_15 (v := nI 0) (by decide) ?_
    have hb2 := hb.wide (P' := fun j => trP j ∨ j = 167) (fun j z => Or.inl z)
    exact ax_ireturn dL_cost_16 rfl (hq v _ z (hb2.wr (Or.inr rfl)).gw (hC1.kept' (fun j z1 z2 => ax_wr_ne (by omega))) ax_wr_eq)
  · refine Or.inr ⟨_, rfl, ?_⟩
    show X G (d + 7) mL_cost 13 _ [] (h'.1 + 1, h'.2.1 + 6, h'.2.2) Q
    refine ax_iconst dL_cost_13 (v := nI 1) (by decide) ?_
    exact ax_ireturn dL_cost_14 rfl (hx z _ ⟨by show h.1 ≤ h'.1 + 1; rw [hb.1]; omega, by show h'.1 + 1 ≤ _; rw [hb.1]; omega, by show h'.2.1 + 6 ≤ _; rw [hb.2.1]; omega, hb.2.2⟩ hC1)
theorem w_swept {x w : Int32} {b y : Nat} {f : Nat → Int64} (hT : Thr G) (hN : nOK N) (hB : Bd N σ b y) (hb0 : 5300 ≤ b) (hb1 : b < 100000) (hy : y + 50 ≤ 28000) (hC : Cs h N σ) (e167 : h.2.2 167 = some (eJ 1 f))
    (hq : ∀ v h', qSwept N σ x w = some v → Gw h h' (fun j => trP j ∨ j = 167) → Cs h' N σ → h'.2.2 167 = some (eJ 1 (vp_updL f 0 v.toInt64)) → Q (.inl (some (.int 0))) h')
    (hx : qSwept N σ x w = none → ∀ h', Gw h h' trP → Cs h' N σ → Q (.inl (some (.int 1))) h') : X G (d + 8) mL_swept 0 (ax_in 5 [.ref 64, .int x, .int w, .ref 167]) [] h Q := by
  obtain ⟨⟨dr, e64⟩, -⟩ := id hC
  refine ax_aload_n dL_swept_0 rfl ?_
  refine ax_iconst dL_swept_1 (v := nI 0) (by decide) ?_
  refine ax_aload_n dL_swept_2 rfl ?_
  refine ax_iload_n dL_swept_3 rfl ?_
  refine ax_iload_n dL_swept_4 rfl ?_
  refine ax_callVT (pcB := 15) (rest := [.int (nI 0), .ref 167]) dL_swept_5 mmX11_swept lkL_19 miX11_swept msX11_swept (ax_recv_of e64 rfl) rfl rfl (Nat.le_of_ble_eq_true rfl) (Nat.le_of_ble_eq_true rfl) rfl rfl mwL_swept.2.2.2.2.2.2.1 rfl (by decide) (Or.inr ⟨4, dL_swept_13, Nat.le_of_ble_eq_true rfl, rfl⟩) (fun o h1 => (∃ v, (qSwept N σ x w = some v) ∧ o = .inl (some (.int v)) ∧ But h h1 trP ∧ Cs h1 N σ) ∨ ((qSwept N σ x w = none) ∧ ∃ h', But h h' trP ∧ Cs h' N σ ∧ o = .inr h'.1 ∧ h1 = (h'.1 + 1, h'.2.1 + 6, h'.2.2))) (c_swept (d := d) hT hN hB hb0 hb1 hy hC (fun v h' z b c => Or.inl ⟨v, z, rfl, b, c⟩) (fun z h' b c => Or.inr ⟨z, h', b, c, rfl, rfl⟩)) ?_
  rintro o h1 (⟨v, z, rfl, hb, hC1⟩ | ⟨z, h', hb, hC1, rfl, rfl⟩)
  · refine Or.inl ⟨_, rfl, ?_⟩
    have e167 := (hb.2.2 167 (by unfold trP; omega)).trans e167
    show X G (d + 8) mL_swept 8 _ [.int v, .int (nI 0), .ref 167] h1 Q
    refine ax_i2l dL_swept_8 ?_
    refine ax_last dL_swept_9 e167 (ax_ix_nI (j := 0) (by decide) (by decide)) ?_
    refine ax_goto 17 dL_swept_10 (by decide) ?_
    refine ax_iconst dL_swept_17 (v := nI 0) (by decide) ?_
    have hb2 := hb.wide (P' := fun j => trP j ∨ j = 167) (fun j z => Or.inl z)
    exact ax_ireturn dL_swept_18 rfl (hq v _ z (hb2.wr (Or.inr rfl)).gw (hC1.kept' (fun j z1 z2 => ax_wr_ne (by omega))) ax_wr_eq)
  · refine Or.inr ⟨_, rfl, ?_⟩
    show X G (d + 8) mL_swept 15 _ [] (h'.1 + 1, h'.2.1 + 6, h'.2.2) Q
    refine ax_iconst dL_swept_15 (v := nI 1) (by decide) ?_
    exact ax_ireturn dL_swept_16 rfl (hx z _ ⟨by show h.1 ≤ h'.1 + 1; rw [hb.1]; omega, by show h'.1 + 1 ≤ _; rw [hb.1]; omega, by show h'.2.1 + 6 ≤ _; rw [hb.2.1]; omega, hb.2.2⟩ hC1)
theorem w_newcomer {a b s l n w : Int32} {b' y : Nat} {f : Nat → Int64} (hT : Thr G) (hN : nOK N) (hB : Bd N σ b' y) (hb0 : 5300 ≤ b') (hb1 : b' < 100000) (hy : y + 50 ≤ 28000) (hC : Cs h N σ) (e167 : h.2.2 167 = some (eJ 1 f))
    (hq : ∀ v h', nwG N a b s l n w ∧ v = nwV N σ a.toNatClampNeg b.toNatClampNeg s.toNatClampNeg l.toNatClampNeg n.toNatClampNeg w → Gw h h' (fun j => trP j ∨ j = 167) → Cs h' N σ → h'.2.2 167 = some (eJ 1 (vp_updL f 0 v.toInt64)) → Q (.inl (some (.int 0))) h')
    (hx : ¬ nwG N a b s l n w → ∀ h', Gw h h' trP → Cs h' N σ → Q (.inl (some (.int 1))) h') : X G (d + 8) mL_newcomer 0 (ax_in 9 [.ref 64, .int a, .int b, .int s, .int l, .int n, .int w, .ref 167]) [] h Q := by
  obtain ⟨⟨dr, e64⟩, -⟩ := id hC
  refine ax_aload dL_newcomer_0 rfl ?_
  refine ax_iconst dL_newcomer_2 (v := nI 0) (by decide) ?_
  refine ax_aload_n dL_newcomer_3 rfl ?_
  refine ax_iload_n dL_newcomer_4 rfl ?_
  refine ax_iload_n dL_newcomer_5 rfl ?_
  refine ax_iload_n dL_newcomer_6 rfl ?_
  refine ax_iload dL_newcomer_7 rfl ?_
  refine ax_iload dL_newcomer_9 rfl ?_
  refine ax_iload dL_newcomer_11 rfl ?_
  refine ax_callVT (pcB := 23) (rest := [.int (nI 0), .ref 167]) dL_newcomer_13 mmX11_newcomer lkL_15 miX11_newcomer msX11_newcomer (ax_recv_of e64 rfl) rfl rfl (Nat.le_of_ble_eq_true rfl) (Nat.le_of_ble_eq_true rfl) rfl rfl mwL_newcomer.2.2.2.2.2.2.1 rfl (by decide) (Or.inr ⟨8, dL_newcomer_21, Nat.le_of_ble_eq_true rfl, rfl⟩) (fun o h1 => (∃ v, (nwG N a b s l n w ∧ v = nwV N σ a.toNatClampNeg b.toNatClampNeg s.toNatClampNeg l.toNatClampNeg n.toNatClampNeg w) ∧ o = .inl (some (.int v)) ∧ But h h1 trP ∧ Cs h1 N σ) ∨ ((¬ nwG N a b s l n w) ∧ ∃ h', But h h' trP ∧ Cs h' N σ ∧ o = .inr h'.1 ∧ h1 = (h'.1 + 1, h'.2.1 + 6, h'.2.2))) (c_newcomer (d := d) hT hN hB hb0 hb1 hy hC (fun z h' b c => Or.inl ⟨_, ⟨z, rfl⟩, rfl, b, c⟩) (fun z h' b c => Or.inr ⟨z, h', b, c, rfl, rfl⟩)) ?_
  rintro o h1 (⟨v, z, rfl, hb, hC1⟩ | ⟨z, h', hb, hC1, rfl, rfl⟩)
  · refine Or.inl ⟨_, rfl, ?_⟩
    have e167 := (hb.2.2 167 (by unfold trP; omega)).trans e167
    show X G (d + 8) mL_newcomer 16 _ [.int v, .int (nI 0), .ref 167] h1 Q
    refine ax_i2l dL_newcomer_16 ?_
    refine ax_last dL_newcomer_17 e167 (ax_ix_nI (j := 0) (by decide) (by decide)) ?_
    refine ax_goto 25 dL_newcomer_18 (by decide) ?_
    refine ax_iconst dL_newcomer_25 (v := nI 0) (by decide) ?_
    have hb2 := hb.wide (P' := fun j => trP j ∨ j = 167) (fun j z => Or.inl z)
    exact ax_ireturn dL_newcomer_26 rfl (hq v _ z (hb2.wr (Or.inr rfl)).gw (hC1.kept' (fun j z1 z2 => ax_wr_ne (by omega))) ax_wr_eq)
  · refine Or.inr ⟨_, rfl, ?_⟩
    show X G (d + 8) mL_newcomer 23 _ [] (h'.1 + 1, h'.2.1 + 6, h'.2.2) Q
    refine ax_iconst dL_newcomer_23 (v := nI 1) (by decide) ?_
    exact ax_ireturn dL_newcomer_24 rfl (hx z _ ⟨by show h.1 ≤ h'.1 + 1; rw [hb.1]; omega, by show h'.1 + 1 ≤ _; rw [hb.1]; omega, by show h'.2.1 + 6 ≤ _; rw [hb.2.1]; omega, hb.2.2⟩ hC1)
end WRP
