/-! ===== the model: a line ===== -/
section MLN
variable {G : ax_G} {d : Nat} {h : ax_H} {Q : ax_O → ax_H → Prop}
variable {th ta si pt fa co nm rd ask nw os sw bc bm : Int32} {gg : Int64}
variable {ts : List CT} {So Va : Nat → Nat} {s : Nat × Nat} {r : RS} {D : DD}
def lnP : Nat → Prop := fun j => j = 145 ∨ (151 ≤ j ∧ j ≤ 155)
theorem PsR.k7 {h' : ax_H} (a : PsR h ts So Va) (hb : But h h' lnP) : PsR h' ts So Va := a.kept (fun j z1 z2 => hb.2.2 j (by unfold lnP; omega))
theorem TbM.kept {F F' : Nat → Int32} (a : TbM F D) (hF : ∀ j, j < 88 ∨ 91 ≤ j → F' j = F j) : TbM F' D := by
  obtain ⟨⟨a0, a1, a2, a3, a4, a5⟩, a6, a7⟩ := a
  refine ⟨⟨?_, ?_, ?_, ?_, fun q hq => ?_, fun r hr => ?_⟩, fun t ht i hi => ?_, fun r hr => ?_⟩
  · exact (hF _ (by omega)).trans a0
  · exact (hF _ (by omega)).trans a1
  · exact (hF _ (by omega)).trans a2
  · exact (hF _ (by omega)).trans a3
  · exact ⟨(hF _ (by omega)).trans (a4 q hq).1, (hF _ (by omega)).trans (a4 q hq).2⟩
  · exact ⟨(hF _ (by omega)).trans (a5 r hr).1, (hF _ (by omega)).trans (a5 r hr).2.1, (hF _ (by omega)).trans (a5 r hr).2.2⟩
  · exact (hF _ (by omega)).trans (a6 t ht i hi)
  · exact (hF _ (by omega)).trans (a7 r hr)
theorem pStuff_ok (ht : tsOK ts) (hs : sOKs ts s) : sOKs ts (pStuff ts D s) := sNum_ok ht (sSkip_ok ht (sNum_ok ht (sSkip_ok ht (sName_ok ht (sOpen_ok (by omega) ht hs)))))
theorem pPlace_ok (ht : tsOK ts) (hs : sOKs ts s) : sOKs ts (pPlace ts D s) := sName_ok ht (sOpen_ok (by omega) ht hs)
theorem pRoad_ok (ht : tsOK ts) (hs : sOKs ts s) : sOKs ts (pRoad ts D s) := sNum_ok ht (sSkip_ok ht (sNum_ok ht (sSkip_ok ht (sPlace_ok ht (sPlace_ok ht (sOpen_ok (by omega) ht hs))))))
theorem pTrade_ok (ht : tsOK ts) (hs : sOKs ts s) : sOKs ts (pTrade ts D s) := sNum_ok ht (sSkip_ok ht (sStuff_ok ht (sSkip_ok ht (sPlace_ok ht (sPlace_ok ht (sOpen_ok (by omega) ht hs))))))
theorem k_readLine {n : Nat} {F O A : Nat → Int32} {f : Nat → Int64} {g : Nat → Int32} (h0 : r.1.2 = 0) (hk : ¬ kA ts r.1.1 = 0) (ho : rOK ts r) (hrL : rL r) (hM : DmI ts Va F f g n r.2.2.1) (hL : LwM F O A r.2.2.2 (cnL r.2.2.2)) (ht : tsOK ts) (hE : tsE ts) (hT : TkQ ts So Va) (e145 : h.2.2 145 = some (eM th ta si (nI r.1.1) (nI r.1.2) (nI (cnL r.2.2.2 + r.2.2.2.1.length)) (nI n) rd ask nw os sw bc bm gg)) (hP : PsR h ts So Va) (e151 : h.2.2 151 = some (eI 168 F)) (e152 : h.2.2 152 = some (eI 2200 O)) (e153 : h.2.2 153 = some (eI 2200 A)) (e154 : h.2.2 154 = some (eJ 12 f)) (e155 : h.2.2 155 = some (eI 12 g))
    (hq : ∀ h' F' O' A' f' g' n' p co' rd', But h h' lnP → sOKs ts p → sSkip ts 6 p = (mLine ts r).1 → h'.2.2 145 = some (eM th ta si (nI p.1) (nI p.2) (co') (nI n') (rd') ask nw os sw bc bm gg) → h'.2.2 151 = some (eI 168 F') → h'.2.2 152 = some (eI 2200 O') → h'.2.2 153 = some (eI 2200 A') → h'.2.2 154 = some (eJ 12 f') → h'.2.2 155 = some (eI 12 g') → (∀ j, j < 84 → F' j = F j) → (∀ j, j < 1100 → O' j = O j ∧ A' j = A j) → ((mLine ts r).1.2 = 0 → DmI ts Va F' f' g' n' (mLine ts r).2.2.1 ∧ LwM F' O' A' (mLine ts r).2.2.2 (cnL (mLine ts r).2.2.2) ∧ co' = nI (cnL (mLine ts r).2.2.2 + (mLine ts r).2.2.2.1.length)) → Q (.inl none) h') : X G (d + 33) mX12_readLine 0 (ax_in 1 [.ref 145]) [] h Q := by
  obtain ⟨hs, hB1, hB2, hB3, hB4, -⟩ := id ho
  by_cases h15 : kA ts r.1.1 = 15
  · have em : mLine ts r = ((mStuff ts r.2.2.1 r.1).1, r.2.1, (mStuff ts r.2.2.1 r.1).2, r.2.2.2) := by
      unfold mLine
      rw [if_pos h15]
    rw [em, mStuff_p] at hq
    dsimp only at hq
    refine ax_aload_n dX12_readLine_0 rfl ?_
    refine ax_iconst dX12_readLine_1 (v := nI 0) (by decide) ?_
    refine ax_cV dX12_readLine_2 mmX12_isWord lkX12_166 miX12_isWord msX12_isWord (ax_recv_of e145 rfl) rfl rfl (Nat.le_of_ble_eq_true rfl) (Nat.le_of_ble_eq_true rfl) rfl rfl (k_isWord (w := 0) (d := d + 32) (by omega) ht hs hT e145 hP ⟨_, rfl, ?_⟩)
    rw [b1_t (show r.1.2 = 0 ∧ kA ts r.1.1 = kwK 0 from ⟨h0, h15⟩)]
    refine ax_if_eqF 15 dX12_readLine_5 (by decide) (by decide) ?_
    refine ax_aload_n dX12_readLine_8 rfl ?_
    refine ax_cV dX12_readLine_9 mmX12_readStuff lkX12_198 miX12_readStuff msX12_readStuff (ax_recv_of e145 rfl) rfl rfl (Nat.le_of_ble_eq_true rfl) (Nat.le_of_ble_eq_true rfl) rfl rfl (k_readStuff (d := d + 28) h0 hk ⟨hB1, hB2⟩ hM ht hE hs hT e145 hP e151 e154 e155 (fun h1 F1 f1 g1 n1 hb1 e145 e151 e154 e155 hF hz => ⟨_, rfl, ?_⟩))
    refine ax_goto 65 dX12_readLine_12 (by decide) ?_
    refine ax_return dX12_readLine_65 rfl (hq h1 F1 O A f1 g1 n1 (pStuff ts r.2.2.1 r.1) _ _ (hb1.wide (fun j z => by unfold dmP at z; unfold lnP; omega)) (pStuff_ok ht hs) rfl e145 e151 ((hb1.2.2 152 (by unfold dmP; omega)).trans e152) ((hb1.2.2 153 (by unfold dmP; omega)).trans e153) e154 e155 (fun j z => hF j (Or.inl z)) (fun _ _ => ⟨rfl, rfl⟩) (fun z => ?_))
    rw [if_pos z]
    exact ⟨hz (sSkip_0 z).1, hL.kept (fun j z1 z2 => hF j (Or.inr ⟨z1, z2⟩)) (fun _ => ⟨rfl, rfl⟩), rfl⟩
  · refine ax_aload_n dX12_readLine_0 rfl ?_
    refine ax_iconst dX12_readLine_1 (v := nI 0) (by decide) ?_
    refine ax_cV dX12_readLine_2 mmX12_isWord lkX12_166 miX12_isWord msX12_isWord (ax_recv_of e145 rfl) rfl rfl (Nat.le_of_ble_eq_true rfl) (Nat.le_of_ble_eq_true rfl) rfl rfl (k_isWord (w := 0) (d := d + 32) (by omega) ht hs hT e145 hP ⟨_, rfl, ?_⟩)
    rw [b1_f (show ¬ (r.1.2 = 0 ∧ kA ts r.1.1 = kwK 0) from fun z => h15 z.2)]
    refine ax_if_eqT 15 dX12_readLine_5 (by decide) rfl ?_
    by_cases h16 : kA ts r.1.1 = 16
    · have em : mLine ts r = ((mPlace ts r.2.2.1 r.1).1, r.2.1, (mPlace ts r.2.2.1 r.1).2, r.2.2.2) := by
        unfold mLine
        rw [if_neg h15, if_pos h16]
      rw [em, mPlace_p] at hq
      dsimp only at hq
      refine ax_aload_n dX12_readLine_15 rfl ?_
      refine ax_iconst dX12_readLine_16 (v := nI 3) (by decide) ?_
      refine ax_cV dX12_readLine_17 mmX12_isWord lkX12_166 miX12_isWord msX12_isWord (ax_recv_of e145 rfl) rfl rfl (Nat.le_of_ble_eq_true rfl) (Nat.le_of_ble_eq_true rfl) rfl rfl (k_isWord (w := 3) (d := d + 32) (by omega) ht hs hT e145 hP ⟨_, rfl, ?_⟩)
      rw [b1_t (show r.1.2 = 0 ∧ kA ts r.1.1 = kwK 3 from ⟨h0, h16⟩)]
      refine ax_if_eqF 30 dX12_readLine_20 (by decide) (by decide) ?_
      refine ax_aload_n dX12_readLine_23 rfl ?_
      refine ax_cV dX12_readLine_24 mmX12_readPlace lkX12_201 miX12_readPlace msX12_readPlace (ax_recv_of e145 rfl) rfl rfl (Nat.le_of_ble_eq_true rfl) (Nat.le_of_ble_eq_true rfl) rfl rfl (k_readPlace (d := d + 30) h0 hk ⟨hB1, hB2⟩ hM ht hE hs hT e145 hP e151 e154 e155 (fun h1 F1 f1 g1 n1 hb1 e145 e151 e154 e155 hF hz => ⟨_, rfl, ?_⟩))
      refine ax_goto 65 dX12_readLine_27 (by decide) ?_
      refine ax_return dX12_readLine_65 rfl (hq h1 F1 O A f1 g1 n1 (pPlace ts r.2.2.1 r.1) _ _ (hb1.wide (fun j z => by unfold dmP at z; unfold lnP; omega)) (pPlace_ok ht hs) rfl e145 e151 ((hb1.2.2 152 (by unfold dmP; omega)).trans e152) ((hb1.2.2 153 (by unfold dmP; omega)).trans e153) e154 e155 (fun j z => hF j (Or.inl z)) (fun _ _ => ⟨rfl, rfl⟩) (fun z => ?_))
      rw [if_pos z]
      exact ⟨hz (sSkip_0 z).1, hL.kept (fun j z1 z2 => hF j (Or.inr ⟨z1, z2⟩)) (fun _ => ⟨rfl, rfl⟩), rfl⟩
    · refine ax_aload_n dX12_readLine_15 rfl ?_
      refine ax_iconst dX12_readLine_16 (v := nI 3) (by decide) ?_
      refine ax_cV dX12_readLine_17 mmX12_isWord lkX12_166 miX12_isWord msX12_isWord (ax_recv_of e145 rfl) rfl rfl (Nat.le_of_ble_eq_true rfl) (Nat.le_of_ble_eq_true rfl) rfl rfl (k_isWord (w := 3) (d := d + 32) (by omega) ht hs hT e145 hP ⟨_, rfl, ?_⟩)
      rw [b1_f (show ¬ (r.1.2 = 0 ∧ kA ts r.1.1 = kwK 3) from fun z => h16 z.2)]
      refine ax_if_eqT 30 dX12_readLine_20 (by decide) rfl ?_
      by_cases h17 : kA ts r.1.1 = 17
      · have em : mLine ts r = ((mRoad ts r.2.2.1 r.1).1, r.2.1, (mRoad ts r.2.2.1 r.1).2, r.2.2.2) := by
          unfold mLine
          rw [if_neg h15, if_neg h16, if_pos h17]
        rw [em, mRoad_p] at hq
        dsimp only at hq
        refine ax_aload_n dX12_readLine_30 rfl ?_
        refine ax_iconst dX12_readLine_31 (v := nI 4) (by decide) ?_
        refine ax_cV dX12_readLine_32 mmX12_isWord lkX12_166 miX12_isWord msX12_isWord (ax_recv_of e145 rfl) rfl rfl (Nat.le_of_ble_eq_true rfl) (Nat.le_of_ble_eq_true rfl) rfl rfl (k_isWord (w := 4) (d := d + 32) (by omega) ht hs hT e145 hP ⟨_, rfl, ?_⟩)
        rw [b1_t (show r.1.2 = 0 ∧ kA ts r.1.1 = kwK 4 from ⟨h0, h17⟩)]
        refine ax_if_eqF 45 dX12_readLine_35 (by decide) (by decide) ?_
        refine ax_aload_n dX12_readLine_38 rfl ?_
        refine ax_cV dX12_readLine_39 mmX12_readRoad lkX12_204 miX12_readRoad msX12_readRoad (ax_recv_of e145 rfl) rfl rfl (Nat.le_of_ble_eq_true rfl) (Nat.le_of_ble_eq_true rfl) rfl rfl (k_readRoad (d := d + 28) h0 hk ⟨hB1, hB2, hB3, hB4⟩ hM ht hE hs hT e145 hP e151 e154 e155 (fun h1 F1 f1 g1 n1 hb1 e145 e151 e154 e155 hF hz => ⟨_, rfl, ?_⟩))
        refine ax_goto 65 dX12_readLine_42 (by decide) ?_
        refine ax_return dX12_readLine_65 rfl (hq h1 F1 O A f1 g1 n1 (pRoad ts r.2.2.1 r.1) _ _ (hb1.wide (fun j z => by unfold dmP at z; unfold lnP; omega)) (pRoad_ok ht hs) rfl e145 e151 ((hb1.2.2 152 (by unfold dmP; omega)).trans e152) ((hb1.2.2 153 (by unfold dmP; omega)).trans e153) e154 e155 (fun j z => hF j (Or.inl z)) (fun _ _ => ⟨rfl, rfl⟩) (fun z => ?_))
        rw [if_pos z]
        exact ⟨hz (sSkip_0 z).1, hL.kept (fun j z1 z2 => hF j (Or.inr ⟨z1, z2⟩)) (fun _ => ⟨rfl, rfl⟩), rfl⟩
      · refine ax_aload_n dX12_readLine_30 rfl ?_
        refine ax_iconst dX12_readLine_31 (v := nI 4) (by decide) ?_
        refine ax_cV dX12_readLine_32 mmX12_isWord lkX12_166 miX12_isWord msX12_isWord (ax_recv_of e145 rfl) rfl rfl (Nat.le_of_ble_eq_true rfl) (Nat.le_of_ble_eq_true rfl) rfl rfl (k_isWord (w := 4) (d := d + 32) (by omega) ht hs hT e145 hP ⟨_, rfl, ?_⟩)
        rw [b1_f (show ¬ (r.1.2 = 0 ∧ kA ts r.1.1 = kwK 4) from fun z => h17 z.2)]
        refine ax_if_eqT 45 dX12_readLine_35 (by decide) rfl ?_
        by_cases h18 : kA ts r.1.1 = 18
        · have em : mLine ts r = ((mTrade ts r.2.2.1 r.1).1, r.2.1, (mTrade ts r.2.2.1 r.1).2, r.2.2.2) := by
            unfold mLine
            rw [if_neg h15, if_neg h16, if_neg h17, if_pos h18]
          rw [em, mTrade_p] at hq
          dsimp only at hq
          refine ax_aload_n dX12_readLine_45 rfl ?_
          refine ax_bipush dX12_readLine_46 (v := nI 7) (by decide) ?_
          refine ax_cV dX12_readLine_48 mmX12_isWord lkX12_166 miX12_isWord msX12_isWord (ax_recv_of e145 rfl) rfl rfl (Nat.le_of_ble_eq_true rfl) (Nat.le_of_ble_eq_true rfl) rfl rfl (k_isWord (w := 7) (d := d + 32) (by omega) ht hs hT e145 hP ⟨_, rfl, ?_⟩)
          rw [b1_t (show r.1.2 = 0 ∧ kA ts r.1.1 = kwK 7 from ⟨h0, h18⟩)]
          refine ax_if_eqF 61 dX12_readLine_51 (by decide) (by decide) ?_
          refine ax_aload_n dX12_readLine_54 rfl ?_
          refine ax_cV dX12_readLine_55 mmX12_readTrade lkX12_207 miX12_readTrade msX12_readTrade (ax_recv_of e145 rfl) rfl rfl (Nat.le_of_ble_eq_true rfl) (Nat.le_of_ble_eq_true rfl) rfl rfl (k_readTrade (d := d + 28) h0 hk ⟨hB1, hB2, hB3, hB4⟩ hM ht hE hs hT e145 hP e151 e154 e155 (fun h1 F1 f1 g1 n1 hb1 e145 e151 e154 e155 hF hz => ⟨_, rfl, ?_⟩))
          refine ax_goto 65 dX12_readLine_58 (by decide) ?_
          refine ax_return dX12_readLine_65 rfl (hq h1 F1 O A f1 g1 n1 (pTrade ts r.2.2.1 r.1) _ _ (hb1.wide (fun j z => by unfold dmP at z; unfold lnP; omega)) (pTrade_ok ht hs) rfl e145 e151 ((hb1.2.2 152 (by unfold dmP; omega)).trans e152) ((hb1.2.2 153 (by unfold dmP; omega)).trans e153) e154 e155 (fun j z => hF j (Or.inl z)) (fun _ _ => ⟨rfl, rfl⟩) (fun z => ?_))
          rw [if_pos z]
          exact ⟨hz (sSkip_0 z).1, hL.kept (fun j z1 z2 => hF j (Or.inr ⟨z1, z2⟩)) (fun _ => ⟨rfl, rfl⟩), rfl⟩
        · refine ax_aload_n dX12_readLine_45 rfl ?_
          refine ax_bipush dX12_readLine_46 (v := nI 7) (by decide) ?_
          refine ax_cV dX12_readLine_48 mmX12_isWord lkX12_166 miX12_isWord msX12_isWord (ax_recv_of e145 rfl) rfl rfl (Nat.le_of_ble_eq_true rfl) (Nat.le_of_ble_eq_true rfl) rfl rfl (k_isWord (w := 7) (d := d + 32) (by omega) ht hs hT e145 hP ⟨_, rfl, ?_⟩)
          rw [b1_f (show ¬ (r.1.2 = 0 ∧ kA ts r.1.1 = kwK 7) from fun z => h18 z.2)]
          refine ax_if_eqT 61 dX12_readLine_51 (by decide) rfl ?_
          refine ax_aload_n dX12_readLine_61 rfl ?_
          refine ax_cV dX12_readLine_62 mmX12_readLaw lkX12_210 miX12_readLaw msX12_readLaw (ax_recv_of e145 rfl) rfl rfl (Nat.le_of_ble_eq_true rfl) (Nat.le_of_ble_eq_true rfl) rfl rfl (k_readLaw (d := d) h0 hk ⟨h15, h16, h17, h18⟩ hrL.1 hL ht hE hs hT e145 hP e151 e152 e153 (fun h1 F1 O1 A1 p co1 rd1 hb1 op ep e145 e151 e152 e153 hF hO hz => ⟨_, rfl, ?_⟩))
          refine ax_return dX12_readLine_65 rfl (hq h1 F1 O1 A1 f g n p _ _ (hb1.wide (fun j z => by unfold lwP at z; unfold lnP; omega)) op ep e145 e151 e152 e153 ((hb1.2.2 154 (by unfold lwP; omega)).trans e154) ((hb1.2.2 155 (by unfold lwP; omega)).trans e155) (fun j z => hF j (by omega)) hO (fun z => ?_))
          obtain ⟨z1, z2, z3⟩ := hz z
          rw [z1]
          exact ⟨⟨hM.1.kept hF, hM.2⟩, z2, z3⟩
end MLN
