section PT
variable {G : ax_G} {d : Nat} {h : ax_H} {Q : ax_O → ax_H → Prop}
variable {ts : List CT} {l : Nat} {lb le : Nat → Nat} {D : DD}
theorem c_join4 {dep dd : Nat} {F : ES → ES} (hN : Does G (dd + 1) mX2_readPart (ax_in 4 [.ref 88, .int (nI dep)]) ts l D lb le F) : Does G (dd + 2) mX2_readJoined (ax_in 6 [.ref 88, .int (nI 4), .int (nI dep)]) ts l D lb le F := by
  intro e h Q ho hR hD hq
  have e88 := hR.1
  refine ax_iload_n dX2_readJoined_0 rfl ?_
  refine ax_iconst dX2_readJoined_1 (v := nI 4) (by decide) ?_
  refine ax_icmp_ltF 11 dX2_readJoined_2 (by decide) (by decide) ?_
  refine ax_aload_n dX2_readJoined_5 rfl ?_
  refine ax_iload_n dX2_readJoined_6 rfl ?_
  refine ax_cV dX2_readJoined_7 mmX2_readPart lkX2_178 miX2_readPart msX2_readPart (ax_recv_of e88 rfl) rfl rfl (Nat.le_of_ble_eq_true rfl) (Nat.le_of_ble_eq_true rfl) rfl rfl (hN e h _ ho hR hD (fun h1 hb1 hR1 hD1 => ⟨_, rfl, ?_⟩))
  exact ax_return dX2_readJoined_10 rfl (hq _ hb1 hR1 hD1)
theorem c_joinAll {dep dd : Nat} {F : ES → ES} (ht : tsOK ts) (hF : FOK ts F) (hN : Does G (dd + 1) mX2_readPart (ax_in 4 [.ref 88, .int (nI dep)]) ts l D lb le F) : Does G (dd + 6) mX2_readJoined (ax_in 6 [.ref 88, .int (nI 0), .int (nI dep)]) ts l D lb le (joinAll ts F) := by
  have j3 := c_join (lv := 3) (by omega) ht hF (c_join4 hN)
  have j2 := c_join (lv := 2) (by omega) ht (join_ok hF) j3
  have j1 := c_join (lv := 1) (by omega) ht (join_ok (join_ok hF)) j2
  exact c_join (lv := 0) (by omega) ht (join_ok (join_ok (join_ok hF))) j1
/-- the beginning of readPart, up to where it is known whether a part begins here -/
theorem c_partPre {dd dep : Nat} {e : ES} (hl3 : l < 3) (ht : tsOK ts) (ho : eOK ts e) (hR : Rd h ts l e.1) (hD : DrD h D e.2.1 lb le e.2.2)
    (k1 : e.1.2 = 0 → isPt ts l e.1.1 → X G (dd + 1) mX2_readPart 72 [some (.ref 88), some (.int (nI dep)), some (.int (fIn l (kA ts e.1.1))), some (.int (bI (decide (kA ts e.1.1 = 2))))] [] h Q)
    (k2 : e.1.2 = 0 → ¬ isPt ts l e.1.1 → ∀ h', But h h' rdP → Rd h' ts l (sFail ts 1 e.1) → DrD h' D e.2.1 lb le e.2.2 → Q (.inl none) h') (k3 : ¬ e.1.2 = 0 → Q (.inl none) h) : X G (dd + 1) mX2_readPart 0 (ax_in 4 [.ref 88, .int (nI dep)]) [] h Q := by
  have e88 := hR.1
  have hk31 := (ht.2 _ ho.1.1).1
  have hf := ho.1.2
  have h01 := fIn01 l (kA ts e.1.1) hk31
  have mid : e.1.2 = 0 → X G (dd + 1) mX2_readPart 36 [some (.ref 88), some (.int (nI dep)), some (.int (fIn l (kA ts e.1.1))), some (.int (bI (decide (kA ts e.1.1 = 2))))] [] h Q := by
    intro h0
    by_cases h1 : fIn l (kA ts e.1.1) = 0
    · refine ax_iload_n dX2_readPart_36 rfl ?_
      refine ax_if_neF 72 dX2_readPart_37 (by decide) h1 ?_
      by_cases h2 : kA ts e.1.1 = 2
      · refine ax_iload_n dX2_readPart_40 rfl ?_
        refine ax_if_neT 72 dX2_readPart_41 (by decide) (by rw [decide_eq_true h2]; decide) ?_
        exact k1 h0 (Or.inr (Or.inl h2))
      · refine ax_iload_n dX2_readPart_40 rfl ?_
        refine ax_if_neF 72 dX2_readPart_41 (by decide) (by rw [decide_eq_false h2]; rfl) ?_
        refine ax_aload_n dX2_readPart_44 rfl ?_
        refine ax_getf dX2_readPart_45 flX2_15 e88 rfl ?_
        by_cases h3 : kA ts e.1.1 = 14
        · refine ax_gets (k := 14) dX2_readPart_48 (by decide) slX2_198 (ax_tkZ (by decide) rfl) ?_
          refine ax_acmpE 72 dX2_readPart_51 (by decide) (by omega) (by omega) (fun _ => ?_) (fun z => absurd h3 z)
          exact k1 h0 (Or.inr (Or.inr (Or.inl h3)))
        · refine ax_gets (k := 14) dX2_readPart_48 (by decide) slX2_198 (ax_tkZ (by decide) rfl) ?_
          refine ax_acmpE 72 dX2_readPart_51 (by decide) (by omega) (by omega) (fun z => absurd z h3) (fun _ => ?_)
          refine ax_aload_n dX2_readPart_54 rfl ?_
          refine ax_getf dX2_readPart_55 flX2_15 e88 rfl ?_
          by_cases h4 : kA ts e.1.1 = 4
          · refine ax_gets (k := 4) dX2_readPart_58 (by decide) slX2_201 (ax_tkZ (by decide) rfl) ?_
            refine ax_acmpE 72 dX2_readPart_61 (by decide) (by omega) (by omega) (fun _ => ?_) (fun z => absurd h4 z)
            exact k1 h0 (Or.inr (Or.inr (Or.inr h4)))
          · refine ax_gets (k := 4) dX2_readPart_58 (by decide) slX2_201 (ax_tkZ (by decide) rfl) ?_
            refine ax_acmpE 72 dX2_readPart_61 (by decide) (by omega) (by omega) (fun z => absurd z h4) (fun _ => ?_)
            refine ax_aload_n dX2_readPart_64 rfl ?_
            refine ax_iconst dX2_readPart_65 (v := nI 1) (by decide) ?_
            refine ax_cV dX2_readPart_66 mmX2_fail lkX2_78 miX2_fail msX2_fail (ax_recv_of e88 rfl) rfl rfl (Nat.le_of_ble_eq_true rfl) (Nat.le_of_ble_eq_true rfl) rfl rfl (c_rfail (d := dd) (k := 1) (by omega) ht ho.1 hR (fun h5 hb5 hR5 => ⟨_, rfl, ?_⟩))
            refine ax_goto 189 dX2_readPart_69 (by decide) ?_
            exact ax_return dX2_readPart_189 rfl (k2 h0 (fun q => q.elim (fun z => z h1) (fun z => z.elim h2 (fun z => z.elim h3 h4))) _ (hb5.wide (fun j z => Or.inr z)) hR5 (hD.rd hb5))
    · refine ax_iload_n dX2_readPart_36 rfl ?_
      refine ax_if_neT 72 dX2_readPart_37 (by decide) h1 ?_
      exact k1 h0 (Or.inl h1)
  refine ax_aload_n dX2_readPart_0 rfl ?_
  refine ax_getf dX2_readPart_1 flX2_15 e88 rfl ?_
  refine ax_aload_n dX2_readPart_4 rfl ?_
  refine ax_getf dX2_readPart_5 flX2_162 e88 rfl ?_
  refine ax_cV dX2_readPart_8 mmX6_isFactIn lkX2_192 miX6_isFactIn msX6_isFactIn (ax_recvT (by omega)) rfl rfl (Nat.le_of_ble_eq_true rfl) (Nat.le_of_ble_eq_true rfl) rfl rfl (c_isFactIn (d := dd) hk31 hl3 ⟨_, rfl, ?_⟩)
  refine ax_istore_n dX2_readPart_11 (Nat.le_of_ble_eq_true rfl) ?_
  refine ax_aload_n dX2_readPart_12 rfl ?_
  refine ax_getf dX2_readPart_13 flX2_15 e88 rfl ?_
  by_cases h2 : kA ts e.1.1 = 2
  · rw [show bI (decide (kA ts e.1.1 = 2)) = nI 1 from by rw [decide_eq_true h2]; rfl] at mid
    refine ax_gets (k := 2) dX2_readPart_16 (by decide) slX2_195 (ax_tkZ (by decide) rfl) ?_
    refine ax_acmpN 26 dX2_readPart_19 (by decide) (by omega) (by omega) (fun z => absurd h2 z) (fun _ => ?_)
    refine ax_iconst dX2_readPart_22 (v := nI 1) (by decide) ?_
    refine ax_goto 27 dX2_readPart_23 (by decide) ?_
    refine ax_istore_n dX2_readPart_27 (Nat.le_of_ble_eq_true rfl) ?_
    refine ax_aload_n dX2_readPart_28 rfl ?_
    refine ax_getf dX2_readPart_29 flX2_28 e88 rfl ?_
    by_cases h0 : e.1.2 = 0
    · refine ax_if_eqT 36 dX2_readPart_32 (by decide) (by rw [h0]; rfl) ?_
      exact mid h0
    · refine ax_if_eqF 36 dX2_readPart_32 (by decide) (fun q => h0 ((nI_eq (by omega) (by omega)).mp q)) ?_
      exact ax_return dX2_readPart_35 rfl (k3 h0)
  · rw [show bI (decide (kA ts e.1.1 = 2)) = nI 0 from by rw [decide_eq_false h2]; rfl] at mid
    refine ax_gets (k := 2) dX2_readPart_16 (by decide) slX2_195 (ax_tkZ (by decide) rfl) ?_
    refine ax_acmpN 26 dX2_readPart_19 (by decide) (by omega) (by omega) (fun _ => ?_) (fun z => absurd z h2)
    refine ax_iconst dX2_readPart_26 (v := nI 0) (by decide) ?_
    refine ax_istore_n dX2_readPart_27 (Nat.le_of_ble_eq_true rfl) ?_
    refine ax_aload_n dX2_readPart_28 rfl ?_
    refine ax_getf dX2_readPart_29 flX2_28 e88 rfl ?_
    by_cases h0 : e.1.2 = 0
    · refine ax_if_eqT 36 dX2_readPart_32 (by decide) (by rw [h0]; rfl) ?_
      exact mid h0
    · refine ax_if_eqF 36 dX2_readPart_32 (by decide) (fun q => h0 ((nI_eq (by omega) (by omega)).mp q)) ?_
      exact ax_return dX2_readPart_35 rfl (k3 h0)
theorem c_part (hl3 : l < 3) (ht : tsOK ts) (hN : tsN ts) : ∀ (r k : Nat), r ≤ 5 → Does G (k + 6 * r + 2) mX2_readPart (ax_in 4 [.ref 88, .int (nI (5 - r))]) ts l D lb le (mPart ts l r)
  | 0, k, _ => by
    intro e h Q ho hR hD hq
    unfold mPart at hq
    refine c_partPre (dd := k + 1) hl3 ht ho hR hD (fun h0 hp => ?_) (fun h0 hp h' hb hR' hD' => ?_) (fun h0 => ?_)
    · rw [if_pos h0, if_pos hp] at hq
      have e88 := hR.1
      refine ax_iload_n dX2_readPart_72 rfl ?_
      refine ax_iconst dX2_readPart_73 (v := nI 5) (by decide) ?_
      refine ax_icmp_ltF 85 dX2_readPart_74 (by decide) (by decide) ?_
      refine ax_aload_n dX2_readPart_77 rfl ?_
      refine ax_iconst dX2_readPart_78 (v := nI 5) (by decide) ?_
      refine ax_cV dX2_readPart_79 mmX2_fail lkX2_78 miX2_fail msX2_fail (ax_recv_of e88 rfl) rfl rfl (Nat.le_of_ble_eq_true rfl) (Nat.le_of_ble_eq_true rfl) rfl rfl (c_rfail (d := k + 1) (k := 5) (by omega) ht ho.1 hR (fun h5 hb5 hR5 => ⟨_, rfl, ?_⟩))
      refine ax_goto 189 dX2_readPart_82 (by decide) ?_
      exact ax_return dX2_readPart_189 rfl (hq _ (hb5.wide (fun j z => Or.inr z)) hR5 (hD.rd hb5))
    · rw [if_pos h0, if_neg hp] at hq
      exact hq h' hb hR' hD'
    · rw [if_neg h0] at hq
      exact hq h But.rf hR hD
  | r + 1, k, hr => by
    intro e h Q ho hR hD hq
    have ih := c_part hl3 ht hN r k (by omega)
    unfold mPart at hq
    have hdd : k + 6 * (r + 1) + 2 = (k + 6 * r + 6) + 1 + 1 := by omega
    rw [hdd]
    refine c_partPre (dd := k + 6 * r + 6 + 1) hl3 ht ho hR hD (fun h0 hp => ?_) (fun h0 hp h' hb hR' hD' => ?_) (fun h0 => ?_)
    · rw [if_pos h0, if_pos hp] at hq
      have e88 := hR.1
      have e71 := hD.1
      have hk31 := (ht.2 _ ho.1.1).1
      have hst := stp_le _ hk31
      have h01 := fIn01 l (kA ts e.1.1) hk31
      have stepL : ∀ c, c < 2 ^ 20 → (∀ h', But h h' rdP → Rd h' ts l (sStep ts e.1) → DrD h' D (eEmit c e).2.1 lb le (eEmit c e).2.2 → Q (.inl none) h') → X G (k + 6 * r + 6 + 1 + 1) mX2_readPart 127 [some (.ref 88), some (.int (nI (5 - (r + 1)))), some (.int (fIn l (kA ts e.1.1))), some (.int (bI (decide (kA ts e.1.1 = 2))))] [.int (nI c), .ref 71] h Q := by
        intro c hc hq
        refine ax_cV dX2_readPart_127 mmX1_emit lkX2_189 miX1_emit msX1_emit (ax_recv_of e71 rfl) rfl rfl (Nat.le_of_ble_eq_true rfl) (Nat.le_of_ble_eq_true rfl) rfl rfl (c_emitG (d := k + 6 * r + 6 + 1) hc ho.2 hD (fun h1 hb1 hD1 hk1 => ⟨_, rfl, ?_⟩))
        have hR1 := hR.kept hk1
        have e88 := hR1.1
        refine ax_aload_n dX2_readPart_130 rfl ?_
        refine ax_cV dX2_readPart_131 mmX2_step lkX2_187 miX2_step msX2_step (ax_recv_of e88 rfl) rfl rfl (Nat.le_of_ble_eq_true rfl) (Nat.le_of_ble_eq_true rfl) rfl rfl (c_rstep (d := k + 6 * r + 6 + 1) ht ho.1 hR1 (fun h2 hb2 hR2 => ⟨_, rfl, ?_⟩))
        refine ax_goto 189 dX2_readPart_134 (by decide) ?_
        exact ax_return dX2_readPart_189 rfl (hq _ (hb1.tr (hb2.wide (fun j z => Or.inr z))) hR2 (hD1.rd hb2))
      refine ax_iload_n dX2_readPart_72 rfl ?_
      refine ax_iconst dX2_readPart_73 (v := nI 5) (by decide) ?_
      refine ax_icmp_ltT 85 dX2_readPart_74 (by decide) (nI_lt (by omega) (by omega)) ?_
      by_cases h1 : fIn l (kA ts e.1.1) = 0
      · rw [if_neg (fun q => q h1)] at hq
        refine ax_iload_n dX2_readPart_85 rfl ?_
        refine ax_if_neF 93 dX2_readPart_86 (by decide) h1 ?_
        by_cases h2 : kA ts e.1.1 = 2
        · rw [if_pos h2] at hq
          obtain ⟨n1, n2⟩ := hN _ ho.1.1 h2
          obtain ⟨-, e67, -, -, ⟨fv, e70, qv⟩⟩ := id hR
          have ht1 := ht.1
          have hs1 := ho.1.1
          refine ax_iload_n dX2_readPart_89 rfl ?_
          refine ax_if_eqF 137 dX2_readPart_90 (by decide) (by rw [decide_eq_true h2]; decide) ?_
          refine ax_aload_n dX2_readPart_93 rfl ?_
          refine ax_getf dX2_readPart_94 flX2_24 e88 rfl ?_
          refine ax_iload_n dX2_readPart_97 rfl ?_
          refine ax_if_eqT 111 dX2_readPart_98 (by decide) h1 ?_
          refine ax_bipush dX2_readPart_111 (v := nI 16) (by decide) ?_
          refine ax_aload_n dX2_readPart_113 rfl ?_
          refine ax_getf dX2_readPart_114 flX2_20 e88 rfl ?_
          refine ax_getf dX2_readPart_117 flX2_204 e67 rfl ?_
          refine ax_aload_n dX2_readPart_120 rfl ?_
          refine ax_getf dX2_readPart_121 flX2_32 e88 rfl ?_
          refine ax_lald dX2_readPart_124 e70 (ax_ix_nI (j := e.1.1) (by omega) (by decide)) ?_
          rw [qv _ hs1]
          refine ax_l2i dX2_readPart_125 ?_
          rw [n1]
          refine ax_iadd dX2_readPart_126 ?_
          rw [nI_add]
          exact stepL _ (by omega) hq
        · rw [if_neg h2] at hq
          refine ax_iload_n dX2_readPart_89 rfl ?_
          refine ax_if_eqT 137 dX2_readPart_90 (by decide) (by rw [decide_eq_false h2]; rfl) ?_
          refine ax_aload_n dX2_readPart_137 rfl ?_
          refine ax_getf dX2_readPart_138 flX2_15 e88 rfl ?_
          by_cases h3 : kA ts e.1.1 = 14
          · rw [if_pos h3] at hq
            refine ax_gets (k := 14) dX2_readPart_141 (by decide) slX2_198 (ax_tkZ (by decide) rfl) ?_
            refine ax_acmpN 170 dX2_readPart_144 (by decide) (by omega) (by omega) (fun z => absurd h3 z) (fun _ => ?_)
            refine ax_aload_n dX2_readPart_147 rfl ?_
            refine ax_cV dX2_readPart_148 mmX2_step lkX2_187 miX2_step msX2_step (ax_recv_of e88 rfl) rfl rfl (Nat.le_of_ble_eq_true rfl) (Nat.le_of_ble_eq_true rfl) rfl rfl (c_rstep (d := k + 6 * r + 6 + 1) ht ho.1 hR (fun h2 hb2 hR2 => ⟨_, rfl, ?_⟩))
            have hD2 := hD.rd hb2
            have e88 := hR2.1
            refine ax_aload_n dX2_readPart_151 rfl ?_
            refine ax_iload_n dX2_readPart_152 rfl ?_
            refine ax_iconst dX2_readPart_153 (v := nI 1) (by decide) ?_
            refine ax_iadd dX2_readPart_154 ?_
            rw [nI_add, show 5 - (r + 1) + 1 = 5 - r from by omega]
            have ih2 := c_part hl3 ht hN r (k + 5) (by omega)
            rw [show k + 5 + 6 * r + 2 = k + 6 * r + 6 + 1 from by omega] at ih2
            refine ax_cV dX2_readPart_155 mmX2_readPart lkX2_178 miX2_readPart msX2_readPart (ax_recv_of e88 rfl) rfl rfl (Nat.le_of_ble_eq_true rfl) (Nat.le_of_ble_eq_true rfl) rfl rfl (ih2 (sStep ts e.1, e.2) h2 _ ⟨sStep_ok ho.1, ho.2⟩ hR2 hD2 (fun h3 hb3 hR3 hD3 => ⟨_, rfl, ?_⟩))
            have o3 := mPart_ok (l := l) ht r (sStep ts e.1, e.2) ⟨sStep_ok ho.1, ho.2⟩
            have e88 := hR3.1
            have e71 := hD3.1
            refine ax_aload_n dX2_readPart_158 rfl ?_
            refine ax_getf dX2_readPart_159 flX2_24 e88 rfl ?_
            refine ax_bipush dX2_readPart_162 (v := nI 8) (by decide) ?_
            refine ax_cV dX2_readPart_164 mmX1_emit lkX2_189 miX1_emit msX1_emit (ax_recv_of e71 rfl) rfl rfl (Nat.le_of_ble_eq_true rfl) (Nat.le_of_ble_eq_true rfl) rfl rfl (c_emitG (d := k + 6 * r + 6 + 1) (by omega) o3.2 hD3 (fun h4 hb4 hD4 hk4 => ⟨_, rfl, ?_⟩))
            refine ax_goto 189 dX2_readPart_167 (by decide) ?_
            exact ax_return dX2_readPart_189 rfl (hq _ (((hb2.wide (fun j z => Or.inr z)).tr hb3).tr hb4) (hR3.kept hk4) hD4)
          · rw [if_neg h3] at hq
            refine ax_gets (k := 14) dX2_readPart_141 (by decide) slX2_198 (ax_tkZ (by decide) rfl) ?_
            refine ax_acmpN 170 dX2_readPart_144 (by decide) (by omega) (by omega) (fun _ => ?_) (fun z => absurd z h3)
            refine ax_aload_n dX2_readPart_170 rfl ?_
            refine ax_cV dX2_readPart_171 mmX2_step lkX2_187 miX2_step msX2_step (ax_recv_of e88 rfl) rfl rfl (Nat.le_of_ble_eq_true rfl) (Nat.le_of_ble_eq_true rfl) rfl rfl (c_rstep (d := k + 6 * r + 6 + 1) ht ho.1 hR (fun h2 hb2 hR2 => ⟨_, rfl, ?_⟩))
            have hD2 := hD.rd hb2
            have e88 := hR2.1
            refine ax_aload_n dX2_readPart_174 rfl ?_
            refine ax_iconst dX2_readPart_175 (v := nI 0) (by decide) ?_
            refine ax_iload_n dX2_readPart_176 rfl ?_
            refine ax_iconst dX2_readPart_177 (v := nI 1) (by decide) ?_
            refine ax_iadd dX2_readPart_178 ?_
            rw [nI_add, show 5 - (r + 1) + 1 = 5 - r from by omega]
            have jh := c_joinAll ht (mPart_ok (l := l) ht r) ih
            refine ax_cV dX2_readPart_179 mmX2_readJoined lkX2_171 miX2_readJoined msX2_readJoined (ax_recv_of e88 rfl) rfl rfl (Nat.le_of_ble_eq_true rfl) (Nat.le_of_ble_eq_true rfl) rfl rfl (jh (sStep ts e.1, e.2) h2 _ ⟨sStep_ok ho.1, ho.2⟩ hR2 hD2 (fun h3 hb3 hR3 hD3 => ⟨_, rfl, ?_⟩))
            have o3 := joinAll_ok (mPart_ok (l := l) ht r) (sStep ts e.1, e.2) ⟨sStep_ok ho.1, ho.2⟩
            have e88 := hR3.1
            refine ax_aload_n dX2_readPart_182 rfl ?_
            refine ax_gets (k := 5) dX2_readPart_183 (by decide) slX2_208 (ax_tkZ (by decide) rfl) ?_
            refine ax_cV dX2_readPart_186 mmX2_skip lkX2_95 miX2_skip msX2_skip (ax_recv_of e88 rfl) rfl rfl (Nat.le_of_ble_eq_true rfl) (Nat.le_of_ble_eq_true rfl) rfl rfl (c_rskip (d := k + 6 * r + 6) (by omega) ht o3.1 hR3 (fun h4 hb4 hR4 => ⟨_, rfl, ?_⟩))
            exact ax_return dX2_readPart_189 rfl (hq _ (((hb2.wide (fun j z => Or.inr z)).tr hb3).tr (hb4.wide (fun j z => Or.inr z))) hR4 (hD3.rd hb4))
      · rw [if_pos h1] at hq
        have hsv := hst.2.2.2 l hl3 h1
        have hs16 := hst.1
        refine ax_iload_n dX2_readPart_85 rfl ?_
        refine ax_if_neT 93 dX2_readPart_86 (by decide) h1 ?_
        refine ax_aload_n dX2_readPart_93 rfl ?_
        refine ax_getf dX2_readPart_94 flX2_24 e88 rfl ?_
        refine ax_iload_n dX2_readPart_97 rfl ?_
        refine ax_if_eqF 111 dX2_readPart_98 (by decide) h1 ?_
        refine ax_aload_n dX2_readPart_101 rfl ?_
        refine ax_getf dX2_readPart_102 flX2_15 e88 rfl ?_
        refine ax_getON dX2_readPart_105 (by omega) snX2_184 (ax_tkF (q := ("LostRoads$Token", "step", "I", tk_step)) (by omega) (by decide)) (fun _ => rfl) ?_
        rw [show (("LostRoads$Token", "step", "I", tk_step) : String × String × String × List Int32).2.2.2 = tk_step from rfl, hsv]
        refine ax_goto 127 dX2_readPart_108 (by decide) ?_
        exact stepL _ (by omega) hq
    · rw [if_pos h0, if_neg hp] at hq
      exact hq h' hb hR' hD'
    · rw [if_neg h0] at hq
      exact hq h But.rf hR hD
end PT
