/-! ===== the model: a part of an expression ===== -/
section MPT
variable {G : ax_G} {d : Nat} {h : ax_H} {Q : ax_O → ax_H → Prop}
variable {th ta si pt fa co nm rd ask nw os sw bc bm : Int32} {gg : Int64}
variable {ts : List CT} {So Va : Nat → Nat} {s : Nat × Nat} {l t : Nat}
def mayF (l j : Nat) : Prop := j < 4 ∨ (j = 4 ∧ l = 0) ∨ (j = 5 ∧ 0 < l) ∨ (5 < j ∧ l = 2)
theorem fwd_k : ∀ j : Nat, j < 8 → fwd j < 19 ∧ kwK (fwd j) = 23 + j ∧ stp (23 + j) = j := by decide
theorem fIn_1 : ∀ l : Nat, l < 3 → ∀ j : Nat, j < 8 → (¬ fIn l (23 + j) = 0 ↔ j < 4 ∨ (j = 4 ∧ l = 0) ∨ (j = 5 ∧ 0 < l) ∨ (5 < j ∧ l = 2)) := by decide +kernel
theorem fIn_2 : ∀ l : Nat, l < 3 → ∀ k : Nat, k < 31 → (k < 23 → fIn l k = 0) := by decide +kernel
/-- what factHere answers -/
def fcM (ts : List CT) (l a : Nat) : Int32 := if ¬ fIn l (kA ts a) = 0 then nI (stp (kA ts a)) else -1
theorem k_factHere (hl : l < 3) (h0 : s.2 = 0) (ht : tsOK ts) (hs : sOKs ts s) (hT : TkQ ts So Va) (e145 : h.2.2 145 = some (eM th ta si (nI s.1) (nI s.2) co nm (nI l) ask nw os sw bc bm gg)) (hP : PsR h ts So Va) (hq : Q (.inl (some (.int (fcM ts l s.1)))) h) : X G (d + 1) mX12_factHere 0 (ax_in 4 [.ref 145]) [] h Q := by
  obtain ⟨-, -, ⟨fw, e156, qw⟩⟩ := id hP
  have hk31 := (ht.2 _ hs.1).1
  have loop : ∀ (m j : Nat) (c : Int32) (o : Option Value), j + m = 8 → ((c = -1 ∧ ∀ i, i < j → ¬ (kA ts s.1 = 23 + i ∧ mayF l i)) ∨ ∃ i, i < j ∧ c = nI i ∧ kA ts s.1 = 23 + i ∧ mayF l i) → X G (d + 1) mX12_factHere 4 [some (.ref 145), some (.int c), some (.int (nI j)), o] [] h Q := by
    intro m
    induction m with
    | zero =>
      intro j c o hj hc
      have e : c = fcM ts l s.1 := by
        unfold fcM
        rcases hc with ⟨c1, c2⟩ | ⟨i, i1, i2, i3, i4⟩
        · rw [if_neg, c1]
          intro z
          by_cases hk : kA ts s.1 < 23
          · exact z (fIn_2 l hl _ hk31 hk)
          · obtain ⟨i, hi⟩ : ∃ i, kA ts s.1 = 23 + i := ⟨kA ts s.1 - 23, by omega⟩
            rw [hi] at z
            exact c2 i (by omega) ⟨hi, (fIn_1 l hl i (by omega)).mp z⟩
        · rw [i3, if_pos ((fIn_1 l hl i (by omega)).mpr i4), (fwd_k i (by omega)).2.2, i2]
      rw [← e] at hq
      refine ax_iload_n dX12_factHere_4 rfl ?_
      refine ax_bipush dX12_factHere_5 (v := nI 8) (by decide) ?_
      refine ax_icmp_geT 87 dX12_factHere_7 (by decide) (nI_le (by omega) (by omega)) ?_
      refine ax_iload_n dX12_factHere_87 rfl ?_
      exact ax_ireturn dX12_factHere_88 rfl hq
    | succ m ih =>
      intro j c o hj hc
      obtain ⟨w1, w2, -⟩ := fwd_k j (by omega)
      have next : ∀ c' : Int32, ((c' = c ∧ ¬ (kA ts s.1 = 23 + j ∧ mayF l j)) ∨ (c' = nI j ∧ kA ts s.1 = 23 + j ∧ mayF l j)) → ∀ o', X G (d + 1) mX12_factHere 80 [some (.ref 145), some (.int c), some (.int (nI j)), o'] [.int c'] h Q := by
        intro c' hc' o'
        refine ax_istore_n dX12_factHere_80 (Nat.le_of_ble_eq_true rfl) ?_
        refine ax_iinc dX12_factHere_81 rfl (ax_inc 1) ?_
        refine ax_goto 4 dX12_factHere_84 (by decide) ?_
        rw [nI_add j 1]
        refine ih (j + 1) c' o' (by omega) ?_
        rcases hc' with ⟨z1, z2⟩ | ⟨z1, z2, z3⟩
        · rw [z1]
          rcases hc with ⟨c1, c2⟩ | ⟨i, i1, i2, i3⟩
          · refine Or.inl ⟨c1, fun i hi => ?_⟩
            by_cases e : i = j
            · rw [e]; exact z2
            · exact c2 i (by omega)
          · exact Or.inr ⟨i, by omega, i2, i3⟩
        · exact Or.inr ⟨j, by omega, z1, z2, z3⟩
      have yes : mayF l j → X G (d + 1) mX12_factHere 52 [some (.ref 145), some (.int c), some (.int (nI j)), o] [] h Q := by
        intro hm
        refine ax_iconst dX12_factHere_52 (v := nI 1) (by decide) ?_
        refine ax_goto 57 dX12_factHere_53 (by decide) ?_
        refine ax_istore_n dX12_factHere_57 (Nat.le_of_ble_eq_true rfl) ?_
        refine ax_iload_n dX12_factHere_58 rfl ?_
        refine ax_if_eqF 79 dX12_factHere_59 (by decide) (by decide) ?_
        refine ax_aload_n dX12_factHere_62 rfl ?_
        refine ax_aload_n dX12_factHere_63 rfl ?_
        refine ax_getf dX12_factHere_64 flX12_90 e145 rfl ?_
        refine ax_iload_n dX12_factHere_67 rfl ?_
        refine ax_iald dX12_factHere_68 e156 (ax_ix_nI (j := j) (by omega) (by decide)) ?_
        rw [qw j (by omega)]
        refine ax_cV dX12_factHere_69 mmX12_isWord lkX12_166 miX12_isWord msX12_isWord (ax_recv_of e145 rfl) rfl rfl (Nat.le_of_ble_eq_true rfl) (Nat.le_of_ble_eq_true rfl) rfl rfl (k_isWord (w := fwd j) (d := d) w1 ht hs hT e145 hP ⟨_, rfl, ?_⟩)
        by_cases hk : kA ts s.1 = 23 + j
        · rw [b1_t (show s.2 = 0 ∧ kA ts s.1 = kwK (fwd j) from ⟨h0, by rw [w2]; exact hk⟩)]
          refine ax_if_eqF 79 dX12_factHere_72 (by decide) (by decide) ?_
          refine ax_iload_n dX12_factHere_75 rfl ?_
          refine ax_goto 80 dX12_factHere_76 (by decide) ?_
          exact next _ (Or.inr ⟨rfl, hk, hm⟩) _
        · rw [b1_f (show ¬ (s.2 = 0 ∧ kA ts s.1 = kwK (fwd j)) from fun z => hk (by rw [← w2]; exact z.2))]
          refine ax_if_eqT 79 dX12_factHere_72 (by decide) rfl ?_
          refine ax_iload_n dX12_factHere_79 rfl ?_
          exact next _ (Or.inl ⟨rfl, fun z => hk z.1⟩) _
      have no : ¬ mayF l j → X G (d + 1) mX12_factHere 56 [some (.ref 145), some (.int c), some (.int (nI j)), o] [] h Q := by
        intro hm
        refine ax_iconst dX12_factHere_56 (v := nI 0) (by decide) ?_
        refine ax_istore_n dX12_factHere_57 (Nat.le_of_ble_eq_true rfl) ?_
        refine ax_iload_n dX12_factHere_58 rfl ?_
        refine ax_if_eqT 79 dX12_factHere_59 (by decide) rfl ?_
        refine ax_iload_n dX12_factHere_79 rfl ?_
        exact next _ (Or.inl ⟨rfl, fun z => hm z.2⟩) _
      refine ax_iload_n dX12_factHere_4 rfl ?_
      refine ax_bipush dX12_factHere_5 (v := nI 8) (by decide) ?_
      refine ax_icmp_geF 87 dX12_factHere_7 (by decide) (nI_ge (by omega) (by omega)) ?_
      by_cases j4 : j < 4
      · refine ax_iload_n dX12_factHere_10 rfl ?_
        refine ax_iconst dX12_factHere_11 (v := nI 4) (by decide) ?_
        refine ax_icmp_ltT 52 dX12_factHere_12 (by decide) (nI_lt (by omega) (by omega)) ?_
        exact yes (Or.inl j4)
      · refine ax_iload_n dX12_factHere_10 rfl ?_
        refine ax_iconst dX12_factHere_11 (v := nI 4) (by decide) ?_
        refine ax_icmp_ltF 52 dX12_factHere_12 (by decide) (nI_nlt (by omega) (by omega)) ?_
        by_cases j5 : j = 4
        · refine ax_iload_n dX12_factHere_15 rfl ?_
          refine ax_iconst dX12_factHere_16 (v := nI 4) (by decide) ?_
          refine ax_icmp_neF 27 dX12_factHere_17 (by decide) (by rw [j5]) ?_
          by_cases l0 : l = 0
          · refine ax_aload_n dX12_factHere_20 rfl ?_
            refine ax_getf dX12_factHere_21 flX12_231 e145 rfl ?_
            refine ax_if_eqT 52 dX12_factHere_24 (by decide) (by rw [l0]; rfl) ?_
            exact yes (Or.inr (Or.inl ⟨j5, l0⟩))
          · refine ax_aload_n dX12_factHere_20 rfl ?_
            refine ax_getf dX12_factHere_21 flX12_231 e145 rfl ?_
            refine ax_if_eqF 52 dX12_factHere_24 (by decide) (fun z => l0 ((nI_eq (by omega) (by omega)).mp z)) ?_
            refine ax_iload_n dX12_factHere_27 rfl ?_
            refine ax_iconst dX12_factHere_28 (v := nI 5) (by decide) ?_
            refine ax_icmp_neT 39 dX12_factHere_29 (by decide) (fun z => absurd ((nI_eq (by omega) (by omega)).mp z) (show ¬ j = 5 by omega)) ?_
            refine ax_iload_n dX12_factHere_39 rfl ?_
            refine ax_iconst dX12_factHere_40 (v := nI 5) (by decide) ?_
            refine ax_icmp_leT 56 dX12_factHere_41 (by decide) (nI_le (by omega) (by omega)) ?_
            exact no (fun z => by unfold mayF at z; omega)
        · refine ax_iload_n dX12_factHere_15 rfl ?_
          refine ax_iconst dX12_factHere_16 (v := nI 4) (by decide) ?_
          refine ax_icmp_neT 27 dX12_factHere_17 (by decide) (fun z => j5 ((nI_eq (by omega) (by omega)).mp z)) ?_
          by_cases j6 : j = 5
          · refine ax_iload_n dX12_factHere_27 rfl ?_
            refine ax_iconst dX12_factHere_28 (v := nI 5) (by decide) ?_
            refine ax_icmp_neF 39 dX12_factHere_29 (by decide) (by rw [j6]) ?_
            by_cases l0 : l = 0
            · refine ax_aload_n dX12_factHere_32 rfl ?_
              refine ax_getf dX12_factHere_33 flX12_231 e145 rfl ?_
              refine ax_if_gtF 52 dX12_factHere_36 (by decide) (by rw [l0]; decide) ?_
              refine ax_iload_n dX12_factHere_39 rfl ?_
              refine ax_iconst dX12_factHere_40 (v := nI 5) (by decide) ?_
              refine ax_icmp_leT 56 dX12_factHere_41 (by decide) (nI_le (by omega) (by omega)) ?_
              exact no (fun z => by unfold mayF at z; omega)
            · refine ax_aload_n dX12_factHere_32 rfl ?_
              refine ax_getf dX12_factHere_33 flX12_231 e145 rfl ?_
              refine ax_if_gtT 52 dX12_factHere_36 (by decide) (nI_lt (a := 0) (by omega) (by omega)) ?_
              exact yes (Or.inr (Or.inr (Or.inl ⟨j6, by omega⟩)))
          · refine ax_iload_n dX12_factHere_27 rfl ?_
            refine ax_iconst dX12_factHere_28 (v := nI 5) (by decide) ?_
            refine ax_icmp_neT 39 dX12_factHere_29 (by decide) (fun z => j6 ((nI_eq (by omega) (by omega)).mp z)) ?_
            refine ax_iload_n dX12_factHere_39 rfl ?_
            refine ax_iconst dX12_factHere_40 (v := nI 5) (by decide) ?_
            refine ax_icmp_leF 56 dX12_factHere_41 (by decide) (fun z => absurd (nI_lt (show 5 < j by omega) (by omega)) (Int32.not_lt.mpr z)) ?_
            by_cases l2 : l = 2
            · refine ax_aload_n dX12_factHere_44 rfl ?_
              refine ax_getf dX12_factHere_45 flX12_231 e145 rfl ?_
              refine ax_iconst dX12_factHere_48 (v := nI 2) (by decide) ?_
              refine ax_icmp_neF 56 dX12_factHere_49 (by decide) (by rw [l2]) ?_
              exact yes (Or.inr (Or.inr (Or.inr ⟨by omega, l2⟩)))
            · refine ax_aload_n dX12_factHere_44 rfl ?_
              refine ax_getf dX12_factHere_45 flX12_231 e145 rfl ?_
              refine ax_iconst dX12_factHere_48 (v := nI 2) (by decide) ?_
              refine ax_icmp_neT 56 dX12_factHere_49 (by decide) (fun z => l2 ((nI_eq (by omega) (by omega)).mp z)) ?_
              exact no (fun z => by unfold mayF at z; omega)
  refine ax_iconst dX12_factHere_0 (v := -1) (by decide) ?_
  refine ax_istore_n dX12_factHere_1 (Nat.le_of_ble_eq_true rfl) ?_
  refine ax_iconst dX12_factHere_2 (v := nI 0) (by decide) ?_
  refine ax_istore_n dX12_factHere_3 (Nat.le_of_ble_eq_true rfl) ?_
  exact loop 8 0 (-1) none rfl (Or.inl ⟨rfl, fun i z => absurd z (Nat.not_lt_zero _)⟩)
theorem fcM_k (hl : l < 3) {a : Nat} (hk : kA ts a < 31) : (fcM ts l a < 0 ↔ fIn l (kA ts a) = 0) ∧ (¬ fIn l (kA ts a) = 0 → fcM ts l a = nI (stp (kA ts a)) ∧ stp (kA ts a) < 8) := by
  unfold fcM
  by_cases hf : fIn l (kA ts a) = 0
  · rw [if_neg (fun z => z hf)]
    exact ⟨⟨fun _ => hf, fun _ => by decide⟩, fun z => absurd hf z⟩
  · rw [if_pos hf]
    have hk2 : ¬ kA ts a < 23 := fun z => hf (fIn_2 l hl _ hk z)
    obtain ⟨i, hi⟩ : ∃ i, kA ts a = 23 + i := ⟨kA ts a - 23, by omega⟩
    have := (fwd_k i (by omega)).2.2
    rw [hi, this]
    exact ⟨⟨fun z => absurd z (nI_nlt (b := 0) (Nat.zero_le _) (by omega)), fun z => absurd (by rw [hi]; exact z) hf⟩, fun _ => ⟨rfl, by omega⟩⟩
/-- the beginning of takePart: up to where a part is known to begin -/
theorem k_partPre {dep : Nat} {e : ES} (hd5 : dep ≤ 5) (hl : l < 3) (ht : tsOK ts) (hs : sOKs ts e.1) (hT : TkQ ts So Va) (e145 : h.2.2 145 = some (eM th ta si (nI e.1.1) (nI e.1.2) co nm (nI l) ask nw os sw bc bm gg)) (hP : PsR h ts So Va)
    (k1 : e.1.2 = 0 → isPt ts l e.1.1 → dep < 5 → X G (d + 2) mX12_takePart 84 [some (.ref 145), some (.int (nI dep)), some (.int (nI (if So e.1.1 = 2 then 1 else 0))), some (.int (fcM ts l e.1.1))] [] h Q)
    (k2 : e.1.2 = 0 → isPt ts l e.1.1 → dep = 5 → ∀ h', But h h' (fun j => j = 145) → h'.2.2 145 = some (eM th ta si (nI (sFail ts 5 e.1).1) (nI (sFail ts 5 e.1).2) co nm (nI l) ask nw os sw bc bm gg) → Q (.inl none) h')
    (k3 : e.1.2 = 0 → ¬ isPt ts l e.1.1 → ∀ h', But h h' (fun j => j = 145) → h'.2.2 145 = some (eM th ta si (nI (sFail ts 1 e.1).1) (nI (sFail ts 1 e.1).2) co nm (nI l) ask nw os sw bc bm gg) → Q (.inl none) h')
    (k4 : ¬ e.1.2 = 0 → Q (.inl none) h) : X G (d + 2) mX12_takePart 0 (ax_in 4 [.ref 145, .int (nI dep)]) [] h Q := by
  obtain ⟨⟨f1, f2, f3, e147, e148, e149, qq⟩, -⟩ := id hP
  have hs1 := hs.1
  have hs2 := hs.2
  have ht1 := ht.1
  have hk31 := (ht.2 _ hs.1).1
  obtain ⟨r1, -, r3⟩ := qq _ hs1
  obtain ⟨t0, -, t2, -⟩ := hT _ hs1
  have hfc := (fcM_k hl hk31).1
  by_cases h0 : e.1.2 = 0
  · have is : isPt ts l e.1.1 → X G (d + 2) mX12_takePart 66 [some (.ref 145), some (.int (nI dep)), some (.int (nI (if So e.1.1 = 2 then 1 else 0))), some (.int (fcM ts l e.1.1))] [] h Q := by
      intro hp
      by_cases h5 : dep = 5
      · refine ax_iload_n dX12_takePart_66 rfl ?_
        refine ax_iconst dX12_takePart_67 (v := nI 5) (by decide) ?_
        refine ax_icmp_neF 76 dX12_takePart_68 (by decide) (by rw [h5]) ?_
        refine ax_aload_n dX12_takePart_71 rfl ?_
        refine ax_iconst dX12_takePart_72 (v := nI 5) (by decide) ?_
        refine ax_cV dX12_takePart_73 mmX12_wrong lkX12_162 miX12_wrong msX12_wrong (ax_recv_of e145 rfl) rfl rfl (Nat.le_of_ble_eq_true rfl) (Nat.le_of_ble_eq_true rfl) rfl rfl (k_wrong (d := d + 1) (k := 5) (by omega) ht hs e145 hP (fun h1 hb1 e145 => ⟨_, rfl, ?_⟩))
        have o1 := (sFail_ok (k := 5) (by omega) ht hs).2
        refine ax_aload_n dX12_takePart_76 rfl ?_
        refine ax_getf dX12_takePart_77 flX12_156 e145 rfl ?_
        refine ax_if_leF 84 dX12_takePart_80 (by decide) (nI_np (by omega) (sFail_f (by omega))) ?_
        exact ax_return dX12_takePart_83 rfl (k2 h0 hp h5 h1 hb1 e145)
      · refine ax_iload_n dX12_takePart_66 rfl ?_
        refine ax_iconst dX12_takePart_67 (v := nI 5) (by decide) ?_
        refine ax_icmp_neT 76 dX12_takePart_68 (by decide) (fun z => h5 ((nI_eq (by omega) (by omega)).mp z)) ?_
        refine ax_aload_n dX12_takePart_76 rfl ?_
        refine ax_getf dX12_takePart_77 flX12_156 e145 rfl ?_
        refine ax_if_leT 84 dX12_takePart_80 (by decide) (by rw [h0]; decide) ?_
        exact k1 h0 hp (by omega)
    have mid : X G (d + 2) mX12_takePart 26 [some (.ref 145), some (.int (nI dep)), none, none] [.int (nI (if So e.1.1 = 2 then 1 else 0))] h Q := by
      refine ax_istore_n dX12_takePart_26 (Nat.le_of_ble_eq_true rfl) ?_
      refine ax_aload_n dX12_takePart_27 rfl ?_
      refine ax_cV dX12_takePart_28 mmX12_factHere lkX12_256 miX12_factHere msX12_factHere (ax_recv_of e145 rfl) rfl rfl (Nat.le_of_ble_eq_true rfl) (Nat.le_of_ble_eq_true rfl) rfl rfl (k_factHere (d := d) hl h0 ht hs hT e145 hP ⟨_, rfl, ?_⟩)
      by_cases hf : fIn l (kA ts e.1.1) = 0
      · refine ax_istore_n dX12_takePart_31 (Nat.le_of_ble_eq_true rfl) ?_
        refine ax_iload_n dX12_takePart_32 rfl ?_
        refine ax_if_geF 66 dX12_takePart_33 (by decide) (Int32.not_le.mpr (hfc.mpr hf)) ?_
        by_cases h2 : So e.1.1 = 2
        · refine ax_iload_n dX12_takePart_36 rfl ?_
          refine ax_if_neT 66 dX12_takePart_37 (by decide) (by rw [if_pos h2]; decide) ?_
          exact is (Or.inr (Or.inl (t2.mp h2)))
        · refine ax_iload_n dX12_takePart_36 rfl ?_
          refine ax_if_neF 66 dX12_takePart_37 (by decide) (by rw [if_neg h2]; rfl) ?_
          refine ax_aload_n dX12_takePart_40 rfl ?_
          refine ax_bipush dX12_takePart_41 (v := nI 40) (by decide) ?_
          refine ax_cV dX12_takePart_43 mmX12_isSign lkX12_159 miX12_isSign msX12_isSign (ax_recv_of e145 rfl) rfl rfl (Nat.le_of_ble_eq_true rfl) (Nat.le_of_ble_eq_true rfl) rfl rfl (k_isSign (q := 0) (d := d + 1) (by omega) ht hs hT e145 hP ⟨_, rfl, ?_⟩)
          by_cases h4 : kA ts e.1.1 = 4
          · rw [b1_t (show e.1.2 = 0 ∧ kA ts e.1.1 = 4 + 0 from ⟨h0, h4⟩)]
            refine ax_if_neT 66 dX12_takePart_46 (by decide) (by decide) ?_
            exact is (Or.inr (Or.inr (Or.inr h4)))
          · rw [b1_f (show ¬ (e.1.2 = 0 ∧ kA ts e.1.1 = 4 + 0) from fun z => h4 z.2)]
            refine ax_if_neF 66 dX12_takePart_46 (by decide) (by decide) ?_
            refine ax_aload_n dX12_takePart_49 rfl ?_
            refine ax_bipush dX12_takePart_50 (v := nI 13) (by decide) ?_
            refine ax_cV dX12_takePart_52 mmX12_isWord lkX12_166 miX12_isWord msX12_isWord (ax_recv_of e145 rfl) rfl rfl (Nat.le_of_ble_eq_true rfl) (Nat.le_of_ble_eq_true rfl) rfl rfl (k_isWord (w := 13) (d := d + 1) (by omega) ht hs hT e145 hP ⟨_, rfl, ?_⟩)
            by_cases h14 : kA ts e.1.1 = 14
            · rw [b1_t (show e.1.2 = 0 ∧ kA ts e.1.1 = kwK 13 from ⟨h0, h14⟩)]
              refine ax_if_neT 66 dX12_takePart_55 (by decide) (by decide) ?_
              exact is (Or.inr (Or.inr (Or.inl h14)))
            · rw [b1_f (show ¬ (e.1.2 = 0 ∧ kA ts e.1.1 = kwK 13) from fun z => h14 z.2)]
              refine ax_if_neF 66 dX12_takePart_55 (by decide) (by decide) ?_
              refine ax_aload_n dX12_takePart_58 rfl ?_
              refine ax_iconst dX12_takePart_59 (v := nI 1) (by decide) ?_
              refine ax_cV dX12_takePart_60 mmX12_wrong lkX12_162 miX12_wrong msX12_wrong (ax_recv_of e145 rfl) rfl rfl (Nat.le_of_ble_eq_true rfl) (Nat.le_of_ble_eq_true rfl) rfl rfl (k_wrong (d := d + 1) (k := 1) (by omega) ht hs e145 hP (fun h1 hb1 e145 => ⟨_, rfl, ?_⟩))
              have o1 := (sFail_ok (k := 1) (by omega) ht hs).2
              refine ax_goto 76 dX12_takePart_63 (by decide) ?_
              refine ax_aload_n dX12_takePart_76 rfl ?_
              refine ax_getf dX12_takePart_77 flX12_156 e145 rfl ?_
              refine ax_if_leF 84 dX12_takePart_80 (by decide) (nI_np (by omega) (sFail_f (by omega))) ?_
              exact ax_return dX12_takePart_83 rfl (k3 h0 (fun z => z.elim (fun y => y hf) (fun y => y.elim (fun x => h2 (t2.mpr x)) (fun x => x.elim h14 h4))) h1 hb1 e145)
      · refine ax_istore_n dX12_takePart_31 (Nat.le_of_ble_eq_true rfl) ?_
        refine ax_iload_n dX12_takePart_32 rfl ?_
        refine ax_if_geT 66 dX12_takePart_33 (by decide) (Int32.not_lt.mp (fun z => hf (hfc.mp z))) ?_
        exact is (Or.inl hf)
    refine ax_aload_n dX12_takePart_0 rfl ?_
    refine ax_getf dX12_takePart_1 flX12_156 e145 rfl ?_
    refine ax_if_leT 8 dX12_takePart_4 (by decide) (by rw [h0]; decide) ?_
    refine ax_aload_n dX12_takePart_8 rfl ?_
    refine ax_getf dX12_takePart_9 flX12_24 e145 rfl ?_
    refine ax_aload_n dX12_takePart_12 rfl ?_
    refine ax_getf dX12_takePart_13 flX12_153 e145 rfl ?_
    refine ax_iald dX12_takePart_16 e147 (ax_ix_nI (j := e.1.1) (by omega) (by decide)) ?_
    rw [r1]
    by_cases h2 : So e.1.1 = 2
    · rw [if_pos h2] at mid
      refine ax_iconst dX12_takePart_17 (v := nI 2) (by decide) ?_
      refine ax_icmp_neF 25 dX12_takePart_18 (by decide) (by rw [h2]) ?_
      refine ax_iconst dX12_takePart_21 (v := nI 1) (by decide) ?_
      refine ax_goto 26 dX12_takePart_22 (by decide) ?_
      exact mid
    · rw [if_neg h2] at mid
      refine ax_iconst dX12_takePart_17 (v := nI 2) (by decide) ?_
      refine ax_icmp_neT 25 dX12_takePart_18 (by decide) (fun z => h2 ((nI_eq (by omega) (by omega)).mp z)) ?_
      refine ax_iconst dX12_takePart_25 (v := nI 0) (by decide) ?_
      exact mid
  · refine ax_aload_n dX12_takePart_0 rfl ?_
    refine ax_getf dX12_takePart_1 flX12_156 e145 rfl ?_
    refine ax_if_leF 8 dX12_takePart_4 (by decide) (nI_np (by omega) h0) ?_
    exact ax_return dX12_takePart_7 rfl (k4 h0)
end MPT
