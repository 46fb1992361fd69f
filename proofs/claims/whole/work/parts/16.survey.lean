section SV
variable {G : ax_G} {d : Nat} {h : ax_H} {Q : ax_O → ax_H → Prop} {st pl ro co hl : Int32}
theorem c_joined {c : Nat} {x y : Int32} (h1 : 8 < c) (h2 : c < 16) (hq : Q (.inl (some (.int (jn c x y)))) h) : X G d mX4_joined 0 (ax_in 3 [.int (nI c), .int x, .int y]) [] h Q := by
  have hc : c = 9 ∨ c = 10 ∨ c = 11 ∨ c = 12 ∨ c = 13 ∨ c = 14 ∨ c = 15 := by omega
  rcases hc with rfl | rfl | rfl | rfl | rfl | rfl | rfl
  · refine ax_iload_n dX4_joined_0 rfl ?_
    refine ax_tableIn 44 dX4_joined_1 (by decide) (by decide) rfl (by decide) ?_
    rw [show jn 9 x y = b1 (¬ x = 0 ∧ ¬ y = 0) from rfl] at hq
    refine ax_iload_n dX4_joined_44 rfl ?_
    refine ax_if_eq 56 dX4_joined_45 (by decide) (fun g1 => ?_) (fun g1 => ?_)
    · refine ax_iconst dX4_joined_56 (v := nI 0) (by decide) ?_
      exact ax_ireturn dX4_joined_57 rfl (by rw [b1_f (fun q => q.1 g1)] at hq; exact hq)
    · refine ax_iload_n dX4_joined_48 rfl ?_
      refine ax_if_eq 56 dX4_joined_49 (by decide) (fun g2 => ?_) (fun g2 => ?_)
      · refine ax_iconst dX4_joined_56 (v := nI 0) (by decide) ?_
        exact ax_ireturn dX4_joined_57 rfl (by rw [b1_f (fun q => q.2 g2)] at hq; exact hq)
      · refine ax_iconst dX4_joined_52 (v := nI 1) (by decide) ?_
        refine ax_goto 57 dX4_joined_53 (by decide) ?_
        exact ax_ireturn dX4_joined_57 rfl (by rw [b1_t ⟨g1, g2⟩] at hq; exact hq)
  · refine ax_iload_n dX4_joined_0 rfl ?_
    refine ax_tableIn 58 dX4_joined_1 (by decide) (by decide) rfl (by decide) ?_
    rw [show jn 10 x y = b1 (¬ x = 0 ∨ ¬ y = 0) from rfl] at hq
    refine ax_iload_n dX4_joined_58 rfl ?_
    refine ax_if_ne 66 dX4_joined_59 (by decide) (fun g1 => ?_) (fun g1 => ?_)
    · refine ax_iconst dX4_joined_66 (v := nI 1) (by decide) ?_
      refine ax_goto 71 dX4_joined_67 (by decide) ?_
      exact ax_ireturn dX4_joined_71 rfl (by rw [b1_t (Or.inl g1)] at hq; exact hq)
    · refine ax_iload_n dX4_joined_62 rfl ?_
      refine ax_if_eq 70 dX4_joined_63 (by decide) (fun g2 => ?_) (fun g2 => ?_)
      · refine ax_iconst dX4_joined_70 (v := nI 0) (by decide) ?_
        exact ax_ireturn dX4_joined_71 rfl (by rw [b1_f (fun q => q.elim (fun z => z g1) (fun z => z g2))] at hq; exact hq)
      · refine ax_iconst dX4_joined_66 (v := nI 1) (by decide) ?_
        refine ax_goto 71 dX4_joined_67 (by decide) ?_
        exact ax_ireturn dX4_joined_71 rfl (by rw [b1_t (Or.inr g2)] at hq; exact hq)
  · refine ax_iload_n dX4_joined_0 rfl ?_
    refine ax_tableIn 72 dX4_joined_1 (by decide) (by decide) rfl (by decide) ?_
    rw [show jn 11 x y = b1 (¬ y ≤ x) from rfl] at hq
    refine ax_iload_n dX4_joined_72 rfl ?_
    refine ax_iload_n dX4_joined_73 rfl ?_
    refine ax_icmp_ge 81 dX4_joined_74 (by decide) (fun g1 => ?_) (fun g1 => ?_)
    · refine ax_iconst dX4_joined_81 (v := nI 0) (by decide) ?_
      exact ax_ireturn dX4_joined_82 rfl (by rw [b1_f (fun q => q g1)] at hq; exact hq)
    · refine ax_iconst dX4_joined_77 (v := nI 1) (by decide) ?_
      refine ax_goto 82 dX4_joined_78 (by decide) ?_
      exact ax_ireturn dX4_joined_82 rfl (by rw [b1_t g1] at hq; exact hq)
  · refine ax_iload_n dX4_joined_0 rfl ?_
    refine ax_tableIn 83 dX4_joined_1 (by decide) (by decide) rfl (by decide) ?_
    rw [show jn 12 x y = b1 (x = y) from rfl] at hq
    refine ax_iload_n dX4_joined_83 rfl ?_
    refine ax_iload_n dX4_joined_84 rfl ?_
    refine ax_icmp_ne 92 dX4_joined_85 (by decide) (fun g1 => ?_) (fun g1 => ?_)
    · refine ax_iconst dX4_joined_92 (v := nI 0) (by decide) ?_
      exact ax_ireturn dX4_joined_93 rfl (by rw [b1_f g1] at hq; exact hq)
    · refine ax_iconst dX4_joined_88 (v := nI 1) (by decide) ?_
      refine ax_goto 93 dX4_joined_89 (by decide) ?_
      exact ax_ireturn dX4_joined_93 rfl (by rw [b1_t g1] at hq; exact hq)
  · refine ax_iload_n dX4_joined_0 rfl ?_
    refine ax_tableIn 94 dX4_joined_1 (by decide) (by decide) rfl (by decide) ?_
    refine ax_iload_n dX4_joined_94 rfl ?_
    refine ax_iload_n dX4_joined_95 rfl ?_
    refine ax_iadd dX4_joined_96 ?_
    exact ax_ireturn dX4_joined_97 rfl hq
  · refine ax_iload_n dX4_joined_0 rfl ?_
    refine ax_tableIn 98 dX4_joined_1 (by decide) (by decide) rfl (by decide) ?_
    refine ax_iload_n dX4_joined_98 rfl ?_
    refine ax_iload_n dX4_joined_99 rfl ?_
    refine ax_isub dX4_joined_100 ?_
    exact ax_ireturn dX4_joined_101 rfl hq
  · refine ax_iload_n dX4_joined_0 rfl ?_
    refine ax_tableIn 102 dX4_joined_1 (by decide) (by decide) rfl (by decide) ?_
    refine ax_iload_n dX4_joined_102 rfl ?_
    refine ax_iload_n dX4_joined_103 rfl ?_
    refine ax_imul dX4_joined_104 ?_
    exact ax_ireturn dX4_joined_105 rfl hq
theorem c_setRoad {r : Nat} {F L H hd sf : Nat → Int32} (hr : r < 10) (e131 : h.2.2 131 = some eSv) (e89 : h.2.2 89 = some (eNet 89 st pl ro co hl)) (e96 : h.2.2 96 = some (eI 10 L)) (e132 : h.2.2 132 = some (eI 8 F)) (e134 : h.2.2 134 = some (eI 10 H)) (e135 : h.2.2 135 = some (eI 10 hd)) (e136 : h.2.2 136 = some (eI 10 sf))
    (hq : Q (.inl none) (ax_wr h 132 (eI 8 (upd (upd (upd (upd F 0 (L r)) 1 (H r)) 2 (hd r)) 3 (sf r))))) : X G d mX4_setRoad 0 (ax_in 2 [.ref 131, .int (nI r)]) [] h Q := by
  refine ax_aload_n dX4_setRoad_0 rfl ?_
  refine ax_getf dX4_setRoad_1 flX4_9 e131 rfl ?_
  refine ax_iconst dX4_setRoad_4 (v := nI 0) (by decide) ?_
  refine ax_aload_n dX4_setRoad_5 rfl ?_
  refine ax_getf dX4_setRoad_6 flX4_30 e131 rfl ?_
  refine ax_getf dX4_setRoad_9 flX4_71 e89 rfl ?_
  refine ax_iload_n dX4_setRoad_12 rfl ?_
  refine ax_iald dX4_setRoad_13 e96 (ax_ix_nI hr (by decide)) ?_
  refine ax_iast dX4_setRoad_14 e132 (ax_ix_nI (j := 0) (by decide) (by decide)) ?_
  refine ax_aload_n dX4_setRoad_15 rfl ?_
  refine ax_getf dX4_setRoad_16 flX4_9 ((ax_wr_ne (by decide)).trans (e131)) rfl ?_
  refine ax_iconst dX4_setRoad_19 (v := nI 1) (by decide) ?_
  refine ax_aload_n dX4_setRoad_20 rfl ?_
  refine ax_getf dX4_setRoad_21 flX4_18 ((ax_wr_ne (by decide)).trans (e131)) rfl ?_
  refine ax_iload_n dX4_setRoad_24 rfl ?_
  refine ax_iald dX4_setRoad_25 ((ax_wr_ne (by decide)).trans (e134)) (ax_ix_nI hr (by decide)) ?_
  refine ax_iast dX4_setRoad_26 ax_wr_eq (ax_ix_nI (j := 1) (by decide) (by decide)) ?_
  rw [ax_wr_wr]
  refine ax_aload_n dX4_setRoad_27 rfl ?_
  refine ax_getf dX4_setRoad_28 flX4_9 ((ax_wr_ne (by decide)).trans (e131)) rfl ?_
  refine ax_iconst dX4_setRoad_31 (v := nI 2) (by decide) ?_
  refine ax_aload_n dX4_setRoad_32 rfl ?_
  refine ax_getf dX4_setRoad_33 flX4_21 ((ax_wr_ne (by decide)).trans (e131)) rfl ?_
  refine ax_iload_n dX4_setRoad_36 rfl ?_
  refine ax_iald dX4_setRoad_37 ((ax_wr_ne (by decide)).trans (e135)) (ax_ix_nI hr (by decide)) ?_
  refine ax_iast dX4_setRoad_38 ax_wr_eq (ax_ix_nI (j := 2) (by decide) (by decide)) ?_
  rw [ax_wr_wr]
  refine ax_aload_n dX4_setRoad_39 rfl ?_
  refine ax_getf dX4_setRoad_40 flX4_9 ((ax_wr_ne (by decide)).trans (e131)) rfl ?_
  refine ax_iconst dX4_setRoad_43 (v := nI 3) (by decide) ?_
  refine ax_aload_n dX4_setRoad_44 rfl ?_
  refine ax_getf dX4_setRoad_45 flX4_24 ((ax_wr_ne (by decide)).trans (e131)) rfl ?_
  refine ax_iload_n dX4_setRoad_48 rfl ?_
  refine ax_iald dX4_setRoad_49 ((ax_wr_ne (by decide)).trans (e136)) (ax_ix_nI hr (by decide)) ?_
  refine ax_iast dX4_setRoad_50 ax_wr_eq (ax_ix_nI (j := 3) (by decide) (by decide)) ?_
  rw [ax_wr_wr]
  exact ax_return dX4_setRoad_51 rfl hq
theorem c_value {l b : Nat} {cs : List Nat} {F K C LB LE : Nat → Int32} (hl3 : l < 3) (ho : okc cs 0) (hC : lies C b cs) (hB : LB l = nI b) (hE : LE l = nI (b + cs.length)) (hb : b + cs.length ≤ 1003) (e131 : h.2.2 131 = some eSv) (e89 : h.2.2 89 = some (eNet 89 st pl ro co hl)) (e103 : h.2.2 103 = some (eI 1003 C)) (e104 : h.2.2 104 = some (eI 3 LB)) (e105 : h.2.2 105 = some (eI 3 LE)) (e132 : h.2.2 132 = some (eI 8 F)) (e133 : h.2.2 133 = some (eI 32 K))
    (hq : ∀ K', Q (.inl (some (.int (ev cs F)))) (ax_wr h 133 (eI 32 K'))) : X G (d + 1) mX4_value 0 (ax_in 5 [.ref 131, .int (nI l)]) [] h Q := by
  refine ax_iconst dX4_value_0 (v := nI 0) (by decide) ?_
  refine ax_istore_n dX4_value_1 (Nat.le_of_ble_eq_true rfl) ?_
  refine ax_aload_n dX4_value_2 rfl ?_
  refine ax_getf dX4_value_3 flX4_30 e131 rfl ?_
  refine ax_getf dX4_value_6 flX4_74 e89 rfl ?_
  refine ax_iload_n dX4_value_9 rfl ?_
  refine ax_iald dX4_value_10 e104 (ax_ix_nI hl3 (by decide)) ?_
  rw [hB]
  refine ax_istore_n dX4_value_11 (Nat.le_of_ble_eq_true rfl) ?_
  have loop : ∀ (cs' : List Nat) (i : Nat) (K1 : Nat → Int32) (t : Nat) (o4 : Option Value), cs.drop i = cs' → i ≤ cs.length → t ≤ 32 → okc cs' t → rs F cs' K1 t 0 = ev cs F → X G (d + 1) mX4_value 12 [some (.ref 131), some (.int (nI l)), some (.int (nI t)), some (.int (nI (b + i))), o4] [] (ax_wr h 133 (eI 32 K1)) Q := by
    intro cs'
    induction cs' with
    | nil =>
      intro i K1 t o4 hd hil ht32 ht hf
      have hi : cs.length ≤ i := List.drop_eq_nil_iff.mp hd
      refine ax_iload_n dX4_value_12 rfl ?_
      refine ax_aload_n dX4_value_13 rfl ?_
      refine ax_getf dX4_value_14 flX4_30 ((ax_wr_ne (by decide)).trans (e131)) rfl ?_
      refine ax_getf dX4_value_17 flX4_77 ((ax_wr_ne (by decide)).trans (e89)) rfl ?_
      refine ax_iload_n dX4_value_20 rfl ?_
      refine ax_iald dX4_value_21 ((ax_wr_ne (by decide)).trans (e105)) (ax_ix_nI hl3 (by decide)) ?_
      rw [hE]
      refine ax_icmp_geT 177 dX4_value_22 (by decide) (nI_le (by omega) (by omega)) ?_
      refine ax_aload_n dX4_value_177 rfl ?_
      refine ax_getf dX4_value_178 flX4_15 ((ax_wr_ne (by decide)).trans (e131)) rfl ?_
      refine ax_iconst dX4_value_181 (v := nI 0) (by decide) ?_
      refine ax_iald dX4_value_182 ax_wr_eq (ax_ix_nI (j := 0) (by decide) (by decide)) ?_
      exact ax_ireturn dX4_value_183 rfl (by rw [show K1 0 = ev cs F from hf]; exact hq K1)
    | cons c cs' ih =>
      intro i K1 t o4 hd hil ht32 ht hf
      obtain ⟨hi, hg, hd1⟩ := dropC hd
      obtain ⟨hc0, h1, h2, h3⟩ := ht
      refine ax_iload_n dX4_value_12 rfl ?_
      refine ax_aload_n dX4_value_13 rfl ?_
      refine ax_getf dX4_value_14 flX4_30 ((ax_wr_ne (by decide)).trans (e131)) rfl ?_
      refine ax_getf dX4_value_17 flX4_77 ((ax_wr_ne (by decide)).trans (e89)) rfl ?_
      refine ax_iload_n dX4_value_20 rfl ?_
      refine ax_iald dX4_value_21 ((ax_wr_ne (by decide)).trans (e105)) (ax_ix_nI hl3 (by decide)) ?_
      rw [hE]
      refine ax_icmp_geF 177 dX4_value_22 (by decide) (nI_ge (by omega) (by omega)) ?_
      refine ax_iload_n dX4_value_25 rfl ?_
      refine ax_sipush dX4_value_26 (v := nI 1003) (by decide) ?_
      refine ax_icmp_geF 177 dX4_value_29 (by decide) (nI_ge (by omega) (by omega)) ?_
      refine ax_aload_n dX4_value_32 rfl ?_
      refine ax_getf dX4_value_33 flX4_30 ((ax_wr_ne (by decide)).trans (e131)) rfl ?_
      refine ax_getf dX4_value_36 flX4_80 ((ax_wr_ne (by decide)).trans (e89)) rfl ?_
      refine ax_iload_n dX4_value_39 rfl ?_
      refine ax_iald dX4_value_40 ((ax_wr_ne (by decide)).trans (e103)) (ax_ix_nI (by omega) (by decide)) ?_
      rw [hC i hi, hg]
      simp only [rs] at hf
      refine ax_istore dX4_value_41 (Nat.le_of_ble_eq_true rfl) ?_
      refine ax_iload dX4_value_43 rfl ?_
      refine ax_bipush dX4_value_45 (v := nI 16) (by decide) ?_
      by_cases g2 : 16 ≤ c
      · rw [if_neg (by omega), if_pos g2] at hf
        obtain ⟨k1, k2⟩ := h1 (Or.inr g2)
        refine ax_icmp_geT 57 dX4_value_47 (by decide) (nI_le g2 (by omega)) ?_
        refine ax_iload_n dX4_value_57 rfl ?_
        refine ax_bipush dX4_value_58 (v := nI 32) (by decide) ?_
        refine ax_icmp_geF 171 dX4_value_60 (by decide) (nI_ge (by omega) (by omega)) ?_
        refine ax_aload_n dX4_value_63 rfl ?_
        refine ax_getf dX4_value_64 flX4_15 ((ax_wr_ne (by decide)).trans (e131)) rfl ?_
        refine ax_iload_n dX4_value_67 rfl ?_
        refine ax_iload dX4_value_68 rfl ?_
        refine ax_bipush dX4_value_70 (v := nI 16) (by decide) ?_
        refine ax_icmp_ltF 83 dX4_value_72 (by decide) (nI_nlt g2 (by omega)) ?_
        refine ax_iload dX4_value_75 rfl ?_
        refine ax_bipush dX4_value_77 (v := nI 16) (by decide) ?_
        refine ax_isub dX4_value_79 ?_
        rw [pk_sub g2]
        refine ax_goto 90 dX4_value_80 (by decide) ?_
        refine ax_iast dX4_value_90 ax_wr_eq (ax_ix_nI (by omega) (by decide)) ?_
        rw [ax_wr_wr]
        refine ax_iinc dX4_value_91 rfl (ax_inc 1) ?_
        refine ax_goto 171 dX4_value_94 (by decide) ?_
        refine ax_iinc dX4_value_171 rfl (ax_inc 1) ?_
        refine ax_goto 12 dX4_value_174 (by decide) ?_
        rw [nI_add, nI_add]
        exact ih (i + 1) _ _ _ hd1 (by omega) (by omega) k2 hf
      · refine ax_icmp_geF 57 dX4_value_47 (by decide) (nI_ge (by omega) (by omega)) ?_
        by_cases g1 : c < 8
        · rw [if_pos g1] at hf
          obtain ⟨k1, k2⟩ := h1 (Or.inl g1)
          refine ax_iload dX4_value_50 rfl ?_
          refine ax_bipush dX4_value_52 (v := nI 8) (by decide) ?_
          refine ax_icmp_geF 97 dX4_value_54 (by decide) (nI_ge g1 (by omega)) ?_
          refine ax_iload_n dX4_value_57 rfl ?_
          refine ax_bipush dX4_value_58 (v := nI 32) (by decide) ?_
          refine ax_icmp_geF 171 dX4_value_60 (by decide) (nI_ge (by omega) (by omega)) ?_
          refine ax_aload_n dX4_value_63 rfl ?_
          refine ax_getf dX4_value_64 flX4_15 ((ax_wr_ne (by decide)).trans (e131)) rfl ?_
          refine ax_iload_n dX4_value_67 rfl ?_
          refine ax_iload dX4_value_68 rfl ?_
          refine ax_bipush dX4_value_70 (v := nI 16) (by decide) ?_
          refine ax_icmp_ltT 83 dX4_value_72 (by decide) (nI_lt (by omega) (by omega)) ?_
          refine ax_aload_n dX4_value_83 rfl ?_
          refine ax_getf dX4_value_84 flX4_9 ((ax_wr_ne (by decide)).trans (e131)) rfl ?_
          refine ax_iload dX4_value_87 rfl ?_
          refine ax_iald dX4_value_89 ((ax_wr_ne (by decide)).trans (e132)) (ax_ix_nI g1 (by decide)) ?_
          refine ax_iast dX4_value_90 ax_wr_eq (ax_ix_nI (by omega) (by decide)) ?_
          rw [ax_wr_wr]
          refine ax_iinc dX4_value_91 rfl (ax_inc 1) ?_
          refine ax_goto 171 dX4_value_94 (by decide) ?_
          refine ax_iinc dX4_value_171 rfl (ax_inc 1) ?_
          refine ax_goto 12 dX4_value_174 (by decide) ?_
          rw [nI_add, nI_add]
          exact ih (i + 1) _ _ _ hd1 (by omega) (by omega) k2 hf
        · rw [if_neg g1, if_neg g2] at hf
          refine ax_iload dX4_value_50 rfl ?_
          refine ax_bipush dX4_value_52 (v := nI 8) (by decide) ?_
          refine ax_icmp_geT 97 dX4_value_54 (by decide) (nI_le (by omega) (by omega)) ?_
          by_cases g3 : c = 8
          · rw [if_pos g3] at hf
            obtain ⟨k1, k2⟩ := h2 g3
            refine ax_iload dX4_value_97 rfl ?_
            refine ax_bipush dX4_value_99 (v := nI 8) (by decide) ?_
            refine ax_icmp_neF 136 dX4_value_101 (by decide) (by rw [g3]) ?_
            refine ax_iload_n dX4_value_104 rfl ?_
            refine ax_iconst dX4_value_105 (v := nI 1) (by decide) ?_
            refine ax_icmp_ltF 136 dX4_value_106 (by decide) (nI_nlt k1 (by omega)) ?_
            refine ax_aload_n dX4_value_109 rfl ?_
            refine ax_getf dX4_value_110 flX4_15 ((ax_wr_ne (by decide)).trans (e131)) rfl ?_
            refine ax_iload_n dX4_value_113 rfl ?_
            refine ax_iconst dX4_value_114 (v := nI 1) (by decide) ?_
            refine ax_isub dX4_value_115 ?_
            rw [pk_sub k1]
            refine ax_aload_n dX4_value_116 rfl ?_
            refine ax_getf dX4_value_117 flX4_15 ((ax_wr_ne (by decide)).trans (e131)) rfl ?_
            refine ax_iload_n dX4_value_120 rfl ?_
            refine ax_iconst dX4_value_121 (v := nI 1) (by decide) ?_
            refine ax_isub dX4_value_122 ?_
            rw [pk_sub k1]
            refine ax_iald dX4_value_123 ax_wr_eq (ax_ix_nI (by omega) (by decide)) ?_
            by_cases g4 : K1 (t - 1) = 0
            · rw [b1_t g4] at hf
              refine ax_if_neF 131 dX4_value_124 (by decide) g4 ?_
              refine ax_iconst dX4_value_127 (v := nI 1) (by decide) ?_
              refine ax_goto 132 dX4_value_128 (by decide) ?_
              refine ax_iast dX4_value_132 ax_wr_eq (ax_ix_nI (by omega) (by decide)) ?_
              rw [ax_wr_wr]
              refine ax_goto 171 dX4_value_133 (by decide) ?_
              refine ax_iinc dX4_value_171 rfl (ax_inc 1) ?_
              refine ax_goto 12 dX4_value_174 (by decide) ?_
              rw [nI_add]
              exact ih (i + 1) _ _ _ hd1 (by omega) (by omega) k2 hf
            · rw [b1_f g4] at hf
              refine ax_if_neT 131 dX4_value_124 (by decide) g4 ?_
              refine ax_iconst dX4_value_131 (v := nI 0) (by decide) ?_
              refine ax_iast dX4_value_132 ax_wr_eq (ax_ix_nI (by omega) (by decide)) ?_
              rw [ax_wr_wr]
              refine ax_goto 171 dX4_value_133 (by decide) ?_
              refine ax_iinc dX4_value_171 rfl (ax_inc 1) ?_
              refine ax_goto 12 dX4_value_174 (by decide) ?_
              rw [nI_add]
              exact ih (i + 1) _ _ _ hd1 (by omega) (by omega) k2 hf
          · rw [if_neg g3] at hf
            obtain ⟨k1, k2⟩ := h3 ⟨by omega, by omega⟩
            refine ax_iload dX4_value_97 rfl ?_
            refine ax_bipush dX4_value_99 (v := nI 8) (by decide) ?_
            refine ax_icmp_neT 136 dX4_value_101 (by decide) (fun q => g3 ((nI_eq (by omega) (by omega)).mp q)) ?_
            refine ax_iload_n dX4_value_136 rfl ?_
            refine ax_iconst dX4_value_137 (v := nI 2) (by decide) ?_
            refine ax_icmp_ltF 171 dX4_value_138 (by decide) (nI_nlt k1 (by omega)) ?_
            refine ax_iinc dX4_value_141 rfl (ax_incm 1) ?_
            rw [pk_sub (by omega)]
            refine ax_aload_n dX4_value_144 rfl ?_
            refine ax_getf dX4_value_145 flX4_15 ((ax_wr_ne (by decide)).trans (e131)) rfl ?_
            refine ax_iload_n dX4_value_148 rfl ?_
            refine ax_iconst dX4_value_149 (v := nI 1) (by decide) ?_
            refine ax_isub dX4_value_150 ?_
            rw [pk_sub (by omega)]
            refine ax_iload dX4_value_151 rfl ?_
            refine ax_aload_n dX4_value_153 rfl ?_
            refine ax_getf dX4_value_154 flX4_15 ((ax_wr_ne (by decide)).trans (e131)) rfl ?_
            refine ax_iload_n dX4_value_157 rfl ?_
            refine ax_iconst dX4_value_158 (v := nI 1) (by decide) ?_
            refine ax_isub dX4_value_159 ?_
            rw [pk_sub (by omega)]
            refine ax_iald dX4_value_160 ax_wr_eq (ax_ix_nI (by omega) (by decide)) ?_
            refine ax_aload_n dX4_value_161 rfl ?_
            refine ax_getf dX4_value_162 flX4_15 ((ax_wr_ne (by decide)).trans (e131)) rfl ?_
            refine ax_iload_n dX4_value_165 rfl ?_
            refine ax_iald dX4_value_166 ax_wr_eq (ax_ix_nI (by omega) (by decide)) ?_
            refine ax_cS dX4_value_167 mmX4_joined lkX4_83 mtX4_joined rfl rfl (Nat.le_of_ble_eq_true rfl) (Nat.le_of_ble_eq_true rfl) rfl rfl (c_joined (by omega) (by omega) ⟨_, rfl, ?_⟩)
            refine ax_iast dX4_value_170 ax_wr_eq (ax_ix_nI (by omega) (by decide)) ?_
            rw [ax_wr_wr]
            refine ax_iinc dX4_value_171 rfl (ax_inc 1) ?_
            refine ax_goto 12 dX4_value_174 (by decide) ?_
            rw [nI_add]
            exact ih (i + 1) _ _ _ hd1 (by omega) (by omega) k2 hf
  exact loop cs 0 K 0 none rfl (by omega) (by omega) ho (ev_eq ho F K) |> fun q => by rw [ax_wr_id e133] at q; exact q
end SV
