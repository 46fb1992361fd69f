section RN
variable {G : ax_G} {d : Nat} {h : ax_H} {Q : ax_O → ax_H → Prop} {ts : List CT} {D : DD} {cs : List Nat} {lb le : Nat → Nat} {hl : Int32}
def mRead (ts : List CT) : Nat → RS → RS
  | 0, r => r
  | n + 1, r => if r.1.2 = 0 ∧ ¬ kA ts r.1.1 = 0 then mRead ts n (mLine ts r) else r
theorem mRead_ok (ht : tsOK ts) : ∀ n (r : RS), rOK ts r → rOK ts (mRead ts n r)
  | 0, _, a => a
  | n + 1, r, a => by
    unfold mRead
    split
    · exact mRead_ok ht n _ (mLine_ok ht a)
    · exact a
/-- where reading begins -/
def r0 (l : Nat) (D : DD) : RS := ((0, 0), l, (nZero D.1, D.2), ([], (fun _ => 0), (fun _ => 0), 0))
theorem c_read {l k0 : Nat} {x f0 : Int32} (h0 : 0 < ts.length) (ht : tsOK ts) (hN : tsN ts) (e88 : h.2.2 88 = some (eRd k0 x (nI l) f0)) (hP : TkP h ts) (hD : DrD h D cs lb le hl)
    (hq : ∀ h', But h h' rdP → Rd h' ts (mRead ts 1001 (r0 l D)).2.1 (mRead ts 1001 (r0 l D)).1 → DrD h' (mRead ts 1001 (r0 l D)).2.2.1 (flA3 (mRead ts 1001 (r0 l D)).2.2.2).1 (flA3 (mRead ts 1001 (r0 l D)).2.2.2).2.1 (flA3 (mRead ts 1001 (r0 l D)).2.2.2).2.2.1 (flA3 (mRead ts 1001 (r0 l D)).2.2.2).2.2.2 → Q (.inl (some (.int (nI (mRead ts 1001 (r0 l D)).1.2)))) h') : X G (d + 40) mX2_read 0 (ax_in 2 [.ref 88]) [] h Q := by
  have ht1 := ht.1
  generalize hZ : mRead ts 1001 (r0 l D) = Z at hq
  have oZ : rOK ts Z := by
    rw [← hZ]
    exact mRead_ok ht _ _ ⟨⟨h0, by show 0 ≤ 20000; omega⟩, by show (0 : Nat) ≤ 5; omega, by show (0 : Nat) ≤ 7; omega, by show (0 : Nat) ≤ 10; omega, by show (0 : Nat) ≤ 6; omega, by show (0 : Nat) ≤ 1003; omega, fun l _ => ⟨by show (0 : Nat) ≤ 1003; omega, by show (0 : Nat) ≤ 1003; omega⟩⟩
  have fin : ∀ (h1 : ax_H) (i : Nat), But h h1 rdP → RIs h1 ts Z → X G (d + 40) mX2_read 66 [some (.ref 88), some (.int (nI i))] [] h1 Q := by
    intro h1 i hb hR
    have e88 := hR.1.1
    have e71 := hR.2.1
    refine ax_aload_n dX2_read_66 rfl ?_
    refine ax_getf dX2_read_67 flX2_24 e88 rfl ?_
    refine ax_cV dX2_read_70 mmX1_fillLaws lkX2_49 miX1_fillLaws msX1_fillLaws (ax_recv_of e71 rfl) rfl rfl (Nat.le_of_ble_eq_true rfl) (Nat.le_of_ble_eq_true rfl) rfl rfl (c_fillLaws (d := d + 37) (L := Z.2.2.2) oZ.2 hR.2 (fun h2 hb2 hD2 => ⟨_, rfl, ?_⟩))
    have hR2 := hR.1.dr hb2
    have e88 := hR2.1
    refine ax_aload_n dX2_read_73 rfl ?_
    refine ax_getf dX2_read_74 flX2_28 e88 rfl ?_
    exact ax_ireturn dX2_read_77 rfl (hq _ (hb.tr (hb2.wide (fun j z => Or.inl z))) hR2 hD2)
  have loop : ∀ (n i : Nat) (r : RS) (h1 : ax_H), i + n = 1001 → rOK ts r → mRead ts n r = Z → But h h1 rdP → RIs h1 ts r → X G (d + 40) mX2_read 32 [some (.ref 88), some (.int (nI i))] [] h1 Q := by
    intro n
    induction n with
    | zero =>
      intro i r h1 hi ho hm hb hR
      have hm' : r = Z := hm
      refine ax_iload_n dX2_read_32 rfl ?_
      refine ax_sipush dX2_read_33 (v := nI 1001) (by decide) ?_
      refine ax_icmp_geT 66 dX2_read_36 (by decide) (nI_le (by omega) (by omega)) ?_
      exact fin h1 i hb (hm' ▸ hR)
    | succ n ih =>
      intro i r h1 hi ho hm hb hR
      have e88 := hR.1.1
      have hk31 := (ht.2 _ ho.1.1).1
      have hf := ho.1.2
      unfold mRead at hm
      by_cases hf0 : r.1.2 = 0
      · by_cases hk : kA ts r.1.1 = 0
        · rw [if_neg (fun q => q.2 hk)] at hm
          refine ax_iload_n dX2_read_32 rfl ?_
          refine ax_sipush dX2_read_33 (v := nI 1001) (by decide) ?_
          refine ax_icmp_geF 66 dX2_read_36 (by decide) (nI_ge (by omega) (by omega)) ?_
          refine ax_aload_n dX2_read_39 rfl ?_
          refine ax_getf dX2_read_40 flX2_28 e88 rfl ?_
          refine ax_if_neF 66 dX2_read_43 (by decide) (by rw [hf0]; rfl) ?_
          refine ax_aload_n dX2_read_46 rfl ?_
          refine ax_getf dX2_read_47 flX2_15 e88 rfl ?_
          refine ax_gets (k := 0) dX2_read_50 (by decide) slX2_9 (ax_tkZ (by decide) rfl) ?_
          refine ax_acmpE 66 dX2_read_53 (by decide) (by omega) (by omega) (fun _ => ?_) (fun z => absurd hk z)
          exact fin h1 i hb (hm ▸ hR)
        · rw [if_pos ⟨hf0, hk⟩] at hm
          refine ax_iload_n dX2_read_32 rfl ?_
          refine ax_sipush dX2_read_33 (v := nI 1001) (by decide) ?_
          refine ax_icmp_geF 66 dX2_read_36 (by decide) (nI_ge (by omega) (by omega)) ?_
          refine ax_aload_n dX2_read_39 rfl ?_
          refine ax_getf dX2_read_40 flX2_28 e88 rfl ?_
          refine ax_if_neF 66 dX2_read_43 (by decide) (by rw [hf0]; rfl) ?_
          refine ax_aload_n dX2_read_46 rfl ?_
          refine ax_getf dX2_read_47 flX2_15 e88 rfl ?_
          refine ax_gets (k := 0) dX2_read_50 (by decide) slX2_9 (ax_tkZ (by decide) rfl) ?_
          refine ax_acmpE 66 dX2_read_53 (by decide) (by omega) (by omega) (fun z => absurd z hk) (fun _ => ?_)
          refine ax_aload_n dX2_read_56 rfl ?_
          refine ax_cV dX2_read_57 mmX2_readLine lkX2_46 miX2_readLine msX2_readLine (ax_recv_of e88 rfl) rfl rfl (Nat.le_of_ble_eq_true rfl) (Nat.le_of_ble_eq_true rfl) rfl rfl (c_readLine (d := d) ht hN ho hR (fun h2 hb2 hR2 => ⟨_, rfl, ?_⟩))
          refine ax_iinc dX2_read_60 rfl (ax_inc 1) ?_
          refine ax_goto 32 dX2_read_63 (by decide) ?_
          rw [nI_add]
          exact ih (i + 1) _ h2 (by omega) (mLine_ok ht ho) hm (hb.tr hb2) hR2
      · rw [if_neg (fun q => hf0 q.1)] at hm
        refine ax_iload_n dX2_read_32 rfl ?_
        refine ax_sipush dX2_read_33 (v := nI 1001) (by decide) ?_
        refine ax_icmp_geF 66 dX2_read_36 (by decide) (nI_ge (by omega) (by omega)) ?_
        refine ax_aload_n dX2_read_39 rfl ?_
        refine ax_getf dX2_read_40 flX2_28 e88 rfl ?_
        refine ax_if_neT 66 dX2_read_43 (by decide) (fun q => hf0 ((nI_eq (by omega) (by omega)).mp q)) ?_
        exact fin h1 i hb (hm ▸ hR)
  obtain ⟨e67, ⟨fk, e68, qk⟩, g2, g3⟩ := id hP
  refine ax_aload_n dX2_read_0 rfl ?_
  refine ax_iconst dX2_read_1 (v := nI 0) (by decide) ?_
  refine ax_putf dX2_read_2 flX2_28 e88 (Nat.le_of_ble_eq_true rfl) (fun _ => ⟨rfl, rfl⟩) ?_
  refine ax_aload_n dX2_read_5 rfl ?_
  refine ax_iconst dX2_read_6 (v := nI 0) (by decide) ?_
  refine ax_putf dX2_read_7 flX2_32 ax_wr_eq (Nat.le_of_ble_eq_true rfl) (fun _ => ⟨rfl, rfl⟩) ?_
  rw [ax_wr_wr]
  refine ax_aload_n dX2_read_10 rfl ?_
  refine ax_aload_n dX2_read_11 rfl ?_
  refine ax_getf dX2_read_12 flX2_20 ax_wr_eq rfl ?_
  refine ax_getf dX2_read_15 flX2_35 ((ax_wr_ne (by decide)).trans (e67)) rfl ?_
  refine ax_iconst dX2_read_18 (v := nI 0) (by decide) ?_
  refine ax_aald (v := .ref (kA ts 0)) dX2_read_19 ((ax_wr_ne (by decide)).trans e68) (by decide) (ax_ix_nI (j := 0) (by omega) (by decide)) (by rw [qk _ h0]; rfl) ?_
  refine ax_putf dX2_read_20 flX2_15 ax_wr_eq (Nat.le_of_ble_eq_true rfl) (fun _ => ⟨rfl, rfl⟩) ?_
  rw [ax_wr_wr]
  refine ax_hp (h1 := ax_wr h 88 (eRd (kA ts 0) (nI 0) (nI l) (nI 0))) rfl ?_
  have hR1 : Rd (ax_wr h 88 (eRd (kA ts 0) (nI 0) (nI l) (nI 0))) ts l (0, 0) := ⟨ax_wr_eq, hP.kept (fun j z1 z2 => ax_wr_ne (by omega))⟩
  have hD1 : DrD (ax_wr h 88 (eRd (kA ts 0) (nI 0) (nI l) (nI 0))) D cs lb le hl := hD.kept (fun j z1 z2 => ax_wr_ne (by omega))
  have hb1 : But h (ax_wr h 88 (eRd (kA ts 0) (nI 0) (nI l) (nI 0))) rdP := But.rf.wr (Or.inr rfl)
  generalize ax_wr h 88 (eRd (kA ts 0) (nI 0) (nI l) (nI 0)) = h1 at hR1 hD1 hb1 ⊢
  have e88 := hR1.1
  have e71 := hD1.1
  refine ax_aload_n dX2_read_23 rfl ?_
  refine ax_getf dX2_read_24 flX2_24 e88 rfl ?_
  refine ax_cV dX2_read_27 mmX1_clear lkX2_41 miX1_clear msX1_clear (ax_recv_of e71 rfl) rfl rfl (Nat.le_of_ble_eq_true rfl) (Nat.le_of_ble_eq_true rfl) rfl rfl (c_clear (d := d + 38) hD1 (fun h2 hb2 hD2 => ⟨_, rfl, ?_⟩))
  refine ax_iconst dX2_read_30 (v := nI 0) (by decide) ?_
  refine ax_istore_n dX2_read_31 (Nat.le_of_ble_eq_true rfl) ?_
  exact loop 1001 0 (r0 l D) h2 (by omega) ⟨⟨h0, by show 0 ≤ 20000; omega⟩, by show (0 : Nat) ≤ 5; omega, by show (0 : Nat) ≤ 7; omega, by show (0 : Nat) ≤ 10; omega, by show (0 : Nat) ≤ 6; omega, by show (0 : Nat) ≤ 1003; omega, fun l _ => ⟨by show (0 : Nat) ≤ 1003; omega, by show (0 : Nat) ≤ 1003; omega⟩⟩ hZ (hb1.tr (hb2.wide (fun j z => Or.inl z))) ⟨hR1.dr hb2, hD2⟩
end RN
