section TA
variable {G : ax_G} {d : Nat} {h : ax_H} {Q : ax_O → ax_H → Prop} {D : DD} {cs : List Nat} {lb le : Nat → Nat} {hl : Int32}
/-- the net that a draft tells -/
def nOf (D : DD) (cs : List Nat) (lb le : Nat → Nat) : Nt := (D.1.1, fun w => (cs.drop (lb w)).take (le w - lb w))
/-- the class's net, of which nothing is known -/
def anLand (h : ax_H) : Prop := (∃ st pl ro co hl, h.2.2 89 = some (eNet 89 st pl ro co hl)) ∧ anA h 92 5 ∧ anA h 93 5 ∧ anA h 94 10 ∧ anA h 95 10 ∧ anA h 96 10 ∧ anA h 97 10 ∧ anTr h 98 ∧ anA h 103 1003 ∧ anA h 104 3 ∧ anA h 105 3
theorem Land.any {N : Nt} (a : Land h N) (b : anA h 97 10) : anLand h := by
  obtain ⟨⟨co, hl, e, -⟩, a1, a2, a3, a4, a5, e2, a6, a7, a8, a9, C, LB, LE, q1, q2, q3, -⟩ := id a
  exact ⟨⟨_, _, _, co, hl, e⟩, a1.any, a2.any, a3.any, a4.any, a5.any, b, a.tr.any, ⟨C, q1⟩, ⟨LB, q2⟩, ⟨LE, q3⟩⟩
theorem dt_getD {cs : List Nat} {b m i : Nat} (hi : i < m) (hb : b + m ≤ cs.length) : ((cs.drop b).take m).getD i 0 = cs.getD (b + i) 0 := by
  rw [List.getD_eq_getElem?_getD, List.getElem?_take, if_pos hi, List.getElem?_drop, List.getD_eq_getElem?_getD]
theorem c_netTake (hB : DrB D.1 cs lb le) (hw : ∀ w, w < 3 → lb w ≤ le w ∧ le w ≤ cs.length) (hD : DrD h D cs lb le hl) (hA : anLand h)
    (hq : ∀ h', But h h' (fun j => 89 ≤ j ∧ j ≤ 105) → Land h' (nOf D cs lb le) → isA h' 97 10 (nR D.1) D.2.1 → Q (.inl none) h') : X G (d + 2) mX1_take 0 (ax_in 2 [.ref 89, .ref 71]) [] h Q := by
  obtain ⟨b1', b2', b3', b4', b5', -⟩ := hB
  obtain ⟨e71, -, -, ⟨f1, e74, q1⟩, ⟨f2, e75, q2⟩, ⟨f3, e76, q3⟩, ⟨f4, e77, q4⟩, ⟨f5, e78, q5⟩, ⟨f6, e79, q6⟩, hT, ⟨C, e85, q7⟩, ⟨f8, e86, q8⟩, ⟨f9, e87, q9⟩, h01, h4⟩ := id hD
  obtain ⟨⟨st, pl, ro, co, hl0, e89⟩, ⟨g1, e92⟩, ⟨g2, e93⟩, ⟨g3, e94⟩, ⟨g4, e95⟩, ⟨g5, e96⟩, ⟨g6, e97⟩, hT8, ⟨g7, e103⟩, ⟨g8, e104⟩, ⟨g9, e105⟩⟩ := id hA
  have e80 := hT.1
  obtain ⟨tm, e98⟩ := hT8.1
  refine ax_aload_n dX1_take_0 rfl ?_
  refine ax_aload_n dX1_take_1 rfl ?_
  refine ax_getf dX1_take_2 flX1_55 e71 rfl ?_
  refine ax_putf dX1_take_5 flX1_55 e89 (Nat.le_of_ble_eq_true rfl) (fun _ => ⟨rfl, rfl⟩) ?_
  refine ax_aload_n dX1_take_8 rfl ?_
  refine ax_aload_n dX1_take_9 rfl ?_
  refine ax_getf dX1_take_10 flX1_59 ((ax_wr_ne (by decide)).trans (e71)) rfl ?_
  refine ax_putf dX1_take_13 flX1_59 ax_wr_eq (Nat.le_of_ble_eq_true rfl) (fun _ => ⟨rfl, rfl⟩) ?_
  rw [ax_wr_wr]
  refine ax_aload_n dX1_take_16 rfl ?_
  refine ax_aload_n dX1_take_17 rfl ?_
  refine ax_getf dX1_take_18 flX1_62 ((ax_wr_ne (by decide)).trans (e71)) rfl ?_
  refine ax_putf dX1_take_21 flX1_62 ax_wr_eq (Nat.le_of_ble_eq_true rfl) (fun _ => ⟨rfl, rfl⟩) ?_
  rw [ax_wr_wr]
  refine ax_aload_n dX1_take_24 rfl ?_
  refine ax_aload_n dX1_take_25 rfl ?_
  refine ax_getf dX1_take_26 flX1_74 ((ax_wr_ne (by decide)).trans (e71)) rfl ?_
  refine ax_putf dX1_take_29 flX1_74 ax_wr_eq (Nat.le_of_ble_eq_true rfl) (fun _ => ⟨rfl, rfl⟩) ?_
  rw [ax_wr_wr]
  refine ax_aload_n dX1_take_32 rfl ?_
  refine ax_aload_n dX1_take_33 rfl ?_
  refine ax_getf dX1_take_34 flX1_77 ((ax_wr_ne (by decide)).trans (e71)) rfl ?_
  refine ax_putf dX1_take_37 flX1_77 ax_wr_eq (Nat.le_of_ble_eq_true rfl) (nar_b h01) ?_
  rw [ax_wr_wr]
  refine ax_aload_n dX1_take_40 rfl ?_
  refine ax_getf dX1_take_41 flX1_20 ((ax_wr_ne (by decide)).trans (e71)) rfl ?_
  refine ax_iconst dX1_take_44 (v := nI 0) (by decide) ?_
  refine ax_aload_n dX1_take_45 rfl ?_
  refine ax_getf dX1_take_46 flX1_20 ax_wr_eq rfl ?_
  refine ax_iconst dX1_take_49 (v := nI 0) (by decide) ?_
  refine ax_iconst dX1_take_50 (v := nI 5) (by decide) ?_
  refine ax_copyi dX1_take_51 lkX1_97 cp_native cp_static cp_init ((ax_wr_ne (by decide)).trans (e74)) ((ax_wr_ne (by decide)).trans (e92)) (sp' := 0) (dp' := 0) (n' := 5) (by decide) (by decide) (by decide) (by decide) (by decide) (by decide) (by omega) (by omega) rfl (Nat.le_of_ble_eq_true rfl) (by omega) ?_
  refine ax_aload_n dX1_take_54 rfl ?_
  refine ax_getf dX1_take_55 flX1_24 ((ax_wr_ne (by decide)).trans ((ax_wr_ne (by decide)).trans (e71))) rfl ?_
  refine ax_iconst dX1_take_58 (v := nI 0) (by decide) ?_
  refine ax_aload_n dX1_take_59 rfl ?_
  refine ax_getf dX1_take_60 flX1_24 ((ax_wr_ne (by decide)).trans (ax_wr_eq)) rfl ?_
  refine ax_iconst dX1_take_63 (v := nI 0) (by decide) ?_
  refine ax_iconst dX1_take_64 (v := nI 5) (by decide) ?_
  refine ax_copyi dX1_take_65 lkX1_97 cp_native cp_static cp_init ((ax_wr_ne (by decide)).trans ((ax_wr_ne (by decide)).trans (e75))) ((ax_wr_ne (by decide)).trans ((ax_wr_ne (by decide)).trans (e93))) (sp' := 0) (dp' := 0) (n' := 5) (by decide) (by decide) (by decide) (by decide) (by decide) (by decide) (by omega) (by omega) rfl (Nat.le_of_ble_eq_true rfl) (by omega) ?_
  refine ax_aload_n dX1_take_68 rfl ?_
  refine ax_getf dX1_take_69 flX1_27 ((ax_wr_ne (by decide)).trans ((ax_wr_ne (by decide)).trans ((ax_wr_ne (by decide)).trans (e71)))) rfl ?_
  refine ax_iconst dX1_take_72 (v := nI 0) (by decide) ?_
  refine ax_aload_n dX1_take_73 rfl ?_
  refine ax_getf dX1_take_74 flX1_27 ((ax_wr_ne (by decide)).trans ((ax_wr_ne (by decide)).trans (ax_wr_eq))) rfl ?_
  refine ax_iconst dX1_take_77 (v := nI 0) (by decide) ?_
  refine ax_bipush dX1_take_78 (v := nI 10) (by decide) ?_
  refine ax_copyi dX1_take_80 lkX1_97 cp_native cp_static cp_init ((ax_wr_ne (by decide)).trans ((ax_wr_ne (by decide)).trans ((ax_wr_ne (by decide)).trans (e76)))) ((ax_wr_ne (by decide)).trans ((ax_wr_ne (by decide)).trans ((ax_wr_ne (by decide)).trans (e94)))) (sp' := 0) (dp' := 0) (n' := 10) (by decide) (by decide) (by decide) (by decide) (by decide) (by decide) (by omega) (by omega) rfl (Nat.le_of_ble_eq_true rfl) (by omega) ?_
  refine ax_aload_n dX1_take_83 rfl ?_
  refine ax_getf dX1_take_84 flX1_30 ((ax_wr_ne (by decide)).trans ((ax_wr_ne (by decide)).trans ((ax_wr_ne (by decide)).trans ((ax_wr_ne (by decide)).trans (e71))))) rfl ?_
  refine ax_iconst dX1_take_87 (v := nI 0) (by decide) ?_
  refine ax_aload_n dX1_take_88 rfl ?_
  refine ax_getf dX1_take_89 flX1_30 ((ax_wr_ne (by decide)).trans ((ax_wr_ne (by decide)).trans ((ax_wr_ne (by decide)).trans (ax_wr_eq)))) rfl ?_
  refine ax_iconst dX1_take_92 (v := nI 0) (by decide) ?_
  refine ax_bipush dX1_take_93 (v := nI 10) (by decide) ?_
  refine ax_copyi dX1_take_95 lkX1_97 cp_native cp_static cp_init ((ax_wr_ne (by decide)).trans ((ax_wr_ne (by decide)).trans ((ax_wr_ne (by decide)).trans ((ax_wr_ne (by decide)).trans (e77))))) ((ax_wr_ne (by decide)).trans ((ax_wr_ne (by decide)).trans ((ax_wr_ne (by decide)).trans ((ax_wr_ne (by decide)).trans (e95))))) (sp' := 0) (dp' := 0) (n' := 10) (by decide) (by decide) (by decide) (by decide) (by decide) (by decide) (by omega) (by omega) rfl (Nat.le_of_ble_eq_true rfl) (by omega) ?_
  refine ax_aload_n dX1_take_98 rfl ?_
  refine ax_getf dX1_take_99 flX1_33 ((ax_wr_ne (by decide)).trans ((ax_wr_ne (by decide)).trans ((ax_wr_ne (by decide)).trans ((ax_wr_ne (by decide)).trans ((ax_wr_ne (by decide)).trans (e71)))))) rfl ?_
  refine ax_iconst dX1_take_102 (v := nI 0) (by decide) ?_
  refine ax_aload_n dX1_take_103 rfl ?_
  refine ax_getf dX1_take_104 flX1_33 ((ax_wr_ne (by decide)).trans ((ax_wr_ne (by decide)).trans ((ax_wr_ne (by decide)).trans ((ax_wr_ne (by decide)).trans (ax_wr_eq))))) rfl ?_
  refine ax_iconst dX1_take_107 (v := nI 0) (by decide) ?_
  refine ax_bipush dX1_take_108 (v := nI 10) (by decide) ?_
  refine ax_copyi dX1_take_110 lkX1_97 cp_native cp_static cp_init ((ax_wr_ne (by decide)).trans ((ax_wr_ne (by decide)).trans ((ax_wr_ne (by decide)).trans ((ax_wr_ne (by decide)).trans ((ax_wr_ne (by decide)).trans (e78)))))) ((ax_wr_ne (by decide)).trans ((ax_wr_ne (by decide)).trans ((ax_wr_ne (by decide)).trans ((ax_wr_ne (by decide)).trans ((ax_wr_ne (by decide)).trans (e96)))))) (sp' := 0) (dp' := 0) (n' := 10) (by decide) (by decide) (by decide) (by decide) (by decide) (by decide) (by omega) (by omega) rfl (Nat.le_of_ble_eq_true rfl) (by omega) ?_
  refine ax_aload_n dX1_take_113 rfl ?_
  refine ax_getf dX1_take_114 flX1_36 ((ax_wr_ne (by decide)).trans ((ax_wr_ne (by decide)).trans ((ax_wr_ne (by decide)).trans ((ax_wr_ne (by decide)).trans ((ax_wr_ne (by decide)).trans ((ax_wr_ne (by decide)).trans (e71))))))) rfl ?_
  refine ax_iconst dX1_take_117 (v := nI 0) (by decide) ?_
  refine ax_aload_n dX1_take_118 rfl ?_
  refine ax_getf dX1_take_119 flX1_36 ((ax_wr_ne (by decide)).trans ((ax_wr_ne (by decide)).trans ((ax_wr_ne (by decide)).trans ((ax_wr_ne (by decide)).trans ((ax_wr_ne (by decide)).trans (ax_wr_eq)))))) rfl ?_
  refine ax_iconst dX1_take_122 (v := nI 0) (by decide) ?_
  refine ax_bipush dX1_take_123 (v := nI 10) (by decide) ?_
  refine ax_copyi dX1_take_125 lkX1_97 cp_native cp_static cp_init ((ax_wr_ne (by decide)).trans ((ax_wr_ne (by decide)).trans ((ax_wr_ne (by decide)).trans ((ax_wr_ne (by decide)).trans ((ax_wr_ne (by decide)).trans ((ax_wr_ne (by decide)).trans (e79))))))) ((ax_wr_ne (by decide)).trans ((ax_wr_ne (by decide)).trans ((ax_wr_ne (by decide)).trans ((ax_wr_ne (by decide)).trans ((ax_wr_ne (by decide)).trans ((ax_wr_ne (by decide)).trans (e97))))))) (sp' := 0) (dp' := 0) (n' := 10) (by decide) (by decide) (by decide) (by decide) (by decide) (by decide) (by omega) (by omega) rfl (Nat.le_of_ble_eq_true rfl) (by omega) ?_
  refine ax_aload_n dX1_take_128 rfl ?_
  refine ax_getf dX1_take_129 flX1_46 ((ax_wr_ne (by decide)).trans ((ax_wr_ne (by decide)).trans ((ax_wr_ne (by decide)).trans ((ax_wr_ne (by decide)).trans ((ax_wr_ne (by decide)).trans ((ax_wr_ne (by decide)).trans ((ax_wr_ne (by decide)).trans (e71)))))))) rfl ?_
  refine ax_iconst dX1_take_132 (v := nI 0) (by decide) ?_
  refine ax_aload_n dX1_take_133 rfl ?_
  refine ax_getf dX1_take_134 flX1_46 ((ax_wr_ne (by decide)).trans ((ax_wr_ne (by decide)).trans ((ax_wr_ne (by decide)).trans ((ax_wr_ne (by decide)).trans ((ax_wr_ne (by decide)).trans ((ax_wr_ne (by decide)).trans (ax_wr_eq))))))) rfl ?_
  refine ax_iconst dX1_take_137 (v := nI 0) (by decide) ?_
  refine ax_sipush dX1_take_138 (v := nI 1003) (by decide) ?_
  refine ax_copyi dX1_take_141 lkX1_97 cp_native cp_static cp_init ((ax_wr_ne (by decide)).trans ((ax_wr_ne (by decide)).trans ((ax_wr_ne (by decide)).trans ((ax_wr_ne (by decide)).trans ((ax_wr_ne (by decide)).trans ((ax_wr_ne (by decide)).trans ((ax_wr_ne (by decide)).trans (e85)))))))) ((ax_wr_ne (by decide)).trans ((ax_wr_ne (by decide)).trans ((ax_wr_ne (by decide)).trans ((ax_wr_ne (by decide)).trans ((ax_wr_ne (by decide)).trans ((ax_wr_ne (by decide)).trans ((ax_wr_ne (by decide)).trans (e103)))))))) (sp' := 0) (dp' := 0) (n' := 1003) (by decide) (by decide) (by decide) (by decide) (by decide) (by decide) (by omega) (by omega) rfl (Nat.le_of_ble_eq_true rfl) (by omega) ?_
  refine ax_aload_n dX1_take_144 rfl ?_
  refine ax_getf dX1_take_145 flX1_49 ((ax_wr_ne (by decide)).trans ((ax_wr_ne (by decide)).trans ((ax_wr_ne (by decide)).trans ((ax_wr_ne (by decide)).trans ((ax_wr_ne (by decide)).trans ((ax_wr_ne (by decide)).trans ((ax_wr_ne (by decide)).trans ((ax_wr_ne (by decide)).trans (e71))))))))) rfl ?_
  refine ax_iconst dX1_take_148 (v := nI 0) (by decide) ?_
  refine ax_aload_n dX1_take_149 rfl ?_
  refine ax_getf dX1_take_150 flX1_49 ((ax_wr_ne (by decide)).trans ((ax_wr_ne (by decide)).trans ((ax_wr_ne (by decide)).trans ((ax_wr_ne (by decide)).trans ((ax_wr_ne (by decide)).trans ((ax_wr_ne (by decide)).trans ((ax_wr_ne (by decide)).trans (ax_wr_eq)))))))) rfl ?_
  refine ax_iconst dX1_take_153 (v := nI 0) (by decide) ?_
  refine ax_iconst dX1_take_154 (v := nI 3) (by decide) ?_
  refine ax_copyi dX1_take_155 lkX1_97 cp_native cp_static cp_init ((ax_wr_ne (by decide)).trans ((ax_wr_ne (by decide)).trans ((ax_wr_ne (by decide)).trans ((ax_wr_ne (by decide)).trans ((ax_wr_ne (by decide)).trans ((ax_wr_ne (by decide)).trans ((ax_wr_ne (by decide)).trans ((ax_wr_ne (by decide)).trans (e86))))))))) ((ax_wr_ne (by decide)).trans ((ax_wr_ne (by decide)).trans ((ax_wr_ne (by decide)).trans ((ax_wr_ne (by decide)).trans ((ax_wr_ne (by decide)).trans ((ax_wr_ne (by decide)).trans ((ax_wr_ne (by decide)).trans ((ax_wr_ne (by decide)).trans (e104))))))))) (sp' := 0) (dp' := 0) (n' := 3) (by decide) (by decide) (by decide) (by decide) (by decide) (by decide) (by omega) (by omega) rfl (Nat.le_of_ble_eq_true rfl) (by omega) ?_
  refine ax_aload_n dX1_take_158 rfl ?_
  refine ax_getf dX1_take_159 flX1_52 ((ax_wr_ne (by decide)).trans ((ax_wr_ne (by decide)).trans ((ax_wr_ne (by decide)).trans ((ax_wr_ne (by decide)).trans ((ax_wr_ne (by decide)).trans ((ax_wr_ne (by decide)).trans ((ax_wr_ne (by decide)).trans ((ax_wr_ne (by decide)).trans ((ax_wr_ne (by decide)).trans (e71)))))))))) rfl ?_
  refine ax_iconst dX1_take_162 (v := nI 0) (by decide) ?_
  refine ax_aload_n dX1_take_163 rfl ?_
  refine ax_getf dX1_take_164 flX1_52 ((ax_wr_ne (by decide)).trans ((ax_wr_ne (by decide)).trans ((ax_wr_ne (by decide)).trans ((ax_wr_ne (by decide)).trans ((ax_wr_ne (by decide)).trans ((ax_wr_ne (by decide)).trans ((ax_wr_ne (by decide)).trans ((ax_wr_ne (by decide)).trans (ax_wr_eq))))))))) rfl ?_
  refine ax_iconst dX1_take_167 (v := nI 0) (by decide) ?_
  refine ax_iconst dX1_take_168 (v := nI 3) (by decide) ?_
  refine ax_copyi dX1_take_169 lkX1_97 cp_native cp_static cp_init ((ax_wr_ne (by decide)).trans ((ax_wr_ne (by decide)).trans ((ax_wr_ne (by decide)).trans ((ax_wr_ne (by decide)).trans ((ax_wr_ne (by decide)).trans ((ax_wr_ne (by decide)).trans ((ax_wr_ne (by decide)).trans ((ax_wr_ne (by decide)).trans ((ax_wr_ne (by decide)).trans (e87)))))))))) ((ax_wr_ne (by decide)).trans ((ax_wr_ne (by decide)).trans ((ax_wr_ne (by decide)).trans ((ax_wr_ne (by decide)).trans ((ax_wr_ne (by decide)).trans ((ax_wr_ne (by decide)).trans ((ax_wr_ne (by decide)).trans ((ax_wr_ne (by decide)).trans ((ax_wr_ne (by decide)).trans (e105)))))))))) (sp' := 0) (dp' := 0) (n' := 3) (by decide) (by decide) (by decide) (by decide) (by decide) (by decide) (by omega) (by omega) rfl (Nat.le_of_ble_eq_true rfl) (by omega) ?_
  refine ax_aload_n dX1_take_172 rfl ?_
  refine ax_getf dX1_take_173 flX1_42 ((ax_wr_ne (by decide)).trans ((ax_wr_ne (by decide)).trans ((ax_wr_ne (by decide)).trans ((ax_wr_ne (by decide)).trans ((ax_wr_ne (by decide)).trans ((ax_wr_ne (by decide)).trans ((ax_wr_ne (by decide)).trans ((ax_wr_ne (by decide)).trans ((ax_wr_ne (by decide)).trans (ax_wr_eq)))))))))) rfl ?_
  refine ax_aload_n dX1_take_176 rfl ?_
  refine ax_getf dX1_take_177 flX1_42 ((ax_wr_ne (by decide)).trans ((ax_wr_ne (by decide)).trans ((ax_wr_ne (by decide)).trans ((ax_wr_ne (by decide)).trans ((ax_wr_ne (by decide)).trans ((ax_wr_ne (by decide)).trans ((ax_wr_ne (by decide)).trans ((ax_wr_ne (by decide)).trans ((ax_wr_ne (by decide)).trans ((ax_wr_ne (by decide)).trans (e71))))))))))) rfl ?_
  refine ax_cV dX1_take_180 mmX8_take lkX1_103 miX8_take msX8_take (ax_recv_of ((ax_wr_ne (by decide)).trans ((ax_wr_ne (by decide)).trans ((ax_wr_ne (by decide)).trans ((ax_wr_ne (by decide)).trans ((ax_wr_ne (by decide)).trans ((ax_wr_ne (by decide)).trans ((ax_wr_ne (by decide)).trans ((ax_wr_ne (by decide)).trans ((ax_wr_ne (by decide)).trans ((ax_wr_ne (by decide)).trans (e98))))))))))) rfl) rfl rfl (Nat.le_of_ble_eq_true rfl) (Nat.le_of_ble_eq_true rfl) rfl rfl (c_trTake (d := d) (k := 98) (j := 80) (by omega) b4' (hT8.kept (fun j z1 z2 => ?_)) (hT.kept (fun j z1 z2 => ?_)) (fun h2 hb2 hT2 => ⟨_, rfl, ?_⟩))
  · repeat (first | exact rfl | refine (ax_wr_ne (by omega)).trans ?_)
  · repeat (first | exact rfl | refine (ax_wr_ne (by omega)).trans ?_)
  · have kp : ∀ j, (j < 98 ∨ 102 < j) → h2.2.2 j = _ := fun j z => hb2.2.2 j (by omega)
    refine ax_return dX1_take_183 rfl (hq h2 ?_ ⟨⟨nI cs.length, hl, (kp 89 (by omega)).trans ((ax_wr_ne (by decide)).trans ((ax_wr_ne (by decide)).trans ((ax_wr_ne (by decide)).trans ((ax_wr_ne (by decide)).trans ((ax_wr_ne (by decide)).trans ((ax_wr_ne (by decide)).trans ((ax_wr_ne (by decide)).trans ((ax_wr_ne (by decide)).trans ((ax_wr_ne (by decide)).trans (ax_wr_eq)))))))))), h01, ?_⟩, ⟨_, (kp 92 (by omega)).trans ((ax_wr_ne (by decide)).trans ((ax_wr_ne (by decide)).trans ((ax_wr_ne (by decide)).trans ((ax_wr_ne (by decide)).trans ((ax_wr_ne (by decide)).trans ((ax_wr_ne (by decide)).trans ((ax_wr_ne (by decide)).trans ((ax_wr_ne (by decide)).trans (ax_wr_eq))))))))), cpyA (by omega) q1⟩, ⟨_, (kp 93 (by omega)).trans ((ax_wr_ne (by decide)).trans ((ax_wr_ne (by decide)).trans ((ax_wr_ne (by decide)).trans ((ax_wr_ne (by decide)).trans ((ax_wr_ne (by decide)).trans ((ax_wr_ne (by decide)).trans ((ax_wr_ne (by decide)).trans (ax_wr_eq)))))))), cpyA (by omega) q2⟩, ⟨_, (kp 94 (by omega)).trans ((ax_wr_ne (by decide)).trans ((ax_wr_ne (by decide)).trans ((ax_wr_ne (by decide)).trans ((ax_wr_ne (by decide)).trans ((ax_wr_ne (by decide)).trans ((ax_wr_ne (by decide)).trans (ax_wr_eq))))))), cpyA (show nR D.1 ≤ 10 from b3') q3⟩, ⟨_, (kp 95 (by omega)).trans ((ax_wr_ne (by decide)).trans ((ax_wr_ne (by decide)).trans ((ax_wr_ne (by decide)).trans ((ax_wr_ne (by decide)).trans ((ax_wr_ne (by decide)).trans (ax_wr_eq)))))), cpyA (show nR D.1 ≤ 10 from b3') q4⟩, ⟨_, (kp 96 (by omega)).trans ((ax_wr_ne (by decide)).trans ((ax_wr_ne (by decide)).trans ((ax_wr_ne (by decide)).trans ((ax_wr_ne (by decide)).trans (ax_wr_eq))))), cpyA (show nR D.1 ≤ 10 from b3') q5⟩, hT2.1, hT2.2.1, hT2.2.2.1, hT2.2.2.2.1, hT2.2.2.2.2, ⟨_, _, _, (kp 103 (by omega)).trans ((ax_wr_ne (by decide)).trans ((ax_wr_ne (by decide)).trans (ax_wr_eq))), (kp 104 (by omega)).trans ((ax_wr_ne (by decide)).trans (ax_wr_eq)), (kp 105 (by omega)).trans ax_wr_eq, ?_⟩⟩ ⟨_, (kp 97 (by omega)).trans ((ax_wr_ne (by decide)).trans ((ax_wr_ne (by decide)).trans ((ax_wr_ne (by decide)).trans (ax_wr_eq)))), cpyA (show nR D.1 ≤ 10 from b3') q6⟩)
    · exact (((((((((((But.rf.wr (by omega)).wr (by omega)).wr (by omega)).wr (by omega)).wr (by omega)).wr (by omega)).wr (by omega)).wr (by omega)).wr (by omega)).wr (by omega))).tr (hb2.wide (fun j z => by omega))
    · intro hz hm
      exact h4 hz (List.mem_of_mem_drop (List.mem_of_mem_take hm))
    · intro w hw3
      obtain ⟨w1, w2⟩ := hw w hw3
      have hlen : ((nOf D cs lb le).2 w).length = le w - lb w := by
        show ((cs.drop (lb w)).take (le w - lb w)).length = _
        rw [List.length_take, List.length_drop]
        omega
      refine ⟨lb w, fun i hi => ?_, (cpy0 hw3).trans (q8 w hw3), ?_, ?_⟩
      · rw [hlen] at hi
        rw [cpy0 (by omega)]
        have := q7 (lb w + i) (by omega)
        rw [Nat.zero_add] at this
        rw [this]
        exact congrArg nI (dt_getD hi (by omega)).symm
      · rw [(cpy0 hw3).trans (q9 w hw3), hlen]
        congr 1
        omega
      · rw [hlen]; omega
end TA
