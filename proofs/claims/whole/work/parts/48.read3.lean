section RE3
variable {G : ax_G} {d : Nat} {h : ax_H} {Q : ax_O → ax_H → Prop}
variable {ts : List CT} {l : Nat} {s : Nat × Nat} {N : Nt} {H : Nat → Nat} {sn pn : Nat → Int64} {cs : List Nat} {lb le : Nat → Nat} {hl : Int32}
theorem sStep_f : (sStep ts s).2 = s.2 := by unfold sStep; split <;> rfl
theorem sFail_f {k : Nat} (hk : 1 ≤ k) : (sFail ts k s).2 ≠ 0 := by
  unfold sFail
  split
  · show k + 16 * pA ts s.1 ≠ 0; omega
  · assumption
theorem sSkip_0 {k : Nat} (h0 : (sSkip ts k s).2 = 0) : s.2 = 0 ∧ kA ts s.1 = k := by
  unfold sSkip at h0
  rw [sStep_f] at h0
  by_cases hc : kA ts s.1 = k
  · rw [if_pos hc] at h0; exact ⟨h0, hc⟩
  · rw [if_neg hc] at h0; exact absurd h0 (sFail_f (by omega))
theorem sOpen_0 {b : Bool} {k : Nat} (hk : 1 ≤ k) (h0 : (sOpen ts b k s).2 = 0) : s.2 = 0 ∧ b = true := by
  unfold sOpen at h0
  rw [sStep_f] at h0
  cases b with
  | true => exact ⟨h0, rfl⟩
  | false => exact absurd h0 (sFail_f hk)
/-- the number of a token -/
def nA (ts : List CT) (a : Nat) : Nat := (vA ts a).toInt32.toNatClampNeg
theorem sNum_0 {a b : Nat} (hab : a ≤ b) (hb : b < 2 ^ 30) (h0 : (sNum ts a b s).2 = 0) : s.2 = 0 ∧ kA ts s.1 = 2 ∧ (vA ts s.1).toInt32 = nI (nA ts s.1) ∧ a ≤ nA ts s.1 ∧ nA ts s.1 ≤ b := by
  unfold sNum at h0
  rw [sStep_f] at h0
  by_cases hc : kA ts s.1 = 2
  · rw [if_pos hc] at h0
    by_cases hd : (vA ts s.1).toInt32 < nI a ∨ nI b < (vA ts s.1).toInt32
    · rw [if_pos hd] at h0; exact absurd h0 (sFail_f (by omega))
    · rw [if_neg hd] at h0
      rcases rng_cases (a := a) (b := b) hb hab (vA ts s.1).toInt32 with ⟨-, q | q⟩ | ⟨n, n1, n2, n3, -⟩
      · exact absurd (Or.inl q) hd
      · exact absurd (Or.inr q.2) hd
      · refine ⟨h0, hc, ?_⟩
        unfold nA
        rw [n3, nI_clamp (by omega)]
        exact ⟨rfl, n1, n2⟩
  · rw [if_neg hc] at h0; exact absurd h0 (sFail_f (by omega))
theorem sName_0 (h0 : (sName ts N sn pn s).2 = 0) : s.2 = 0 ∧ isNm (kA ts s.1) ∧ nmOf sn (nS N) (vA ts s.1) = none ∧ nmOf pn (nP N) (vA ts s.1) = none := by
  unfold sName at h0
  rw [sStep_f] at h0
  by_cases hc : isNm (kA ts s.1)
  · rw [if_pos hc] at h0
    by_cases hd : nmOf sn (nS N) (vA ts s.1) = none ∧ nmOf pn (nP N) (vA ts s.1) = none
    · rw [if_pos hd] at h0; exact ⟨h0, hc, hd⟩
    · rw [if_neg hd] at h0; exact absurd h0 (sFail_f (by omega))
  · rw [if_neg hc] at h0; exact absurd h0 (sFail_f (by omega))
theorem sPlace_0 {x : Option Nat} (h0 : (sPlace ts N pn x s).2 = 0) : s.2 = 0 ∧ isNm (kA ts s.1) ∧ ∃ p, nmOf pn (nP N) (vA ts s.1) = some p ∧ p < nP N ∧ some p ≠ x := by
  unfold sPlace at h0
  rw [sStep_f] at h0
  by_cases hc : isNm (kA ts s.1)
  · rw [if_pos hc] at h0
    by_cases hd : nmOf pn (nP N) (vA ts s.1) = none
    · rw [if_pos hd] at h0; exact absurd h0 (sFail_f (by omega))
    · rw [if_neg hd] at h0
      by_cases he : nmOf pn (nP N) (vA ts s.1) = x
      · rw [if_pos he] at h0; exact absurd h0 (sFail_f (by omega))
      · rw [if_neg he] at h0
        cases hp : nmOf pn (nP N) (vA ts s.1) with
        | none => exact absurd hp hd
        | some p => exact ⟨h0, hc, p, rfl, nmOf_lt hp, fun q => he (hp.trans q)⟩
  · rw [if_neg hc] at h0; exact absurd h0 (sFail_f (by omega))
theorem sStuff_0 (h0 : (sStuff ts N sn s).2 = 0) : s.2 = 0 ∧ isNm (kA ts s.1) ∧ ∃ p, nmOf sn (nS N) (vA ts s.1) = some p ∧ p < nS N := by
  unfold sStuff at h0
  rw [sStep_f] at h0
  by_cases hc : isNm (kA ts s.1)
  · rw [if_pos hc] at h0
    by_cases hd : nmOf sn (nS N) (vA ts s.1) = none
    · rw [if_pos hd] at h0; exact absurd h0 (sFail_f (by omega))
    · rw [if_neg hd] at h0
      cases hp : nmOf sn (nS N) (vA ts s.1) with
      | none => exact absurd hp hd
      | some p => exact ⟨h0, hc, p, rfl, nmOf_lt hp⟩
  · rw [if_neg hc] at h0; exact absurd h0 (sFail_f (by omega))
/-- the draft's tables -/
abbrev DD : Type := Nt × (Nat → Nat) × (Nat → Int64) × (Nat → Int64)
def mStuff (ts : List CT) (D : DD) (s : Nat × Nat) : (Nat × Nat) × DD :=
  let s1 := sOpen ts (decide (nS D.1 < 5)) 5 s
  let s2 := sName ts D.1 D.2.2.1 D.2.2.2 s1
  let s3 := sSkip ts 25 s2
  let s4 := sNum ts 0 9 s3
  let s5 := sSkip ts 26 s4
  let s6 := sNum ts 0 9 s5
  let s7 := sSkip ts 6 s6
  (s7, if s7.2 = 0 then (nStuff D.1 (nA ts s3.1) (nA ts s5.1), D.2.1, upJ D.2.2.1 (nS D.1) (vA ts s1.1), D.2.2.2) else D)
def mPlace (ts : List CT) (D : DD) (s : Nat × Nat) : (Nat × Nat) × DD :=
  let s1 := sOpen ts (decide (nP D.1 < 7)) 5 s
  let s2 := sName ts D.1 D.2.2.1 D.2.2.2 s1
  let s3 := sSkip ts 6 s2
  (s3, if s3.2 = 0 then (nPlace D.1, D.2.1, D.2.2.1, upJ D.2.2.2 (nP D.1) (vA ts s1.1)) else D)
abbrev pOf (ts : List CT) (D : DD) (a : Nat) : Option Nat := nmOf D.2.2.2 (nP D.1) (vA ts a)
def mRoad (ts : List CT) (D : DD) (s : Nat × Nat) : (Nat × Nat) × DD :=
  let s1 := sOpen ts (decide (nR D.1 < 10)) 5 s
  let s2 := sPlace ts D.1 D.2.2.2 none s1
  let s3 := sPlace ts D.1 D.2.2.2 (pOf ts D s1.1) s2
  let s4 := sSkip ts 23 s3
  let s5 := sNum ts 1 99 s4
  let s6 := sSkip ts 24 s5
  let s7 := sNum ts 0 999 s6
  let s8 := sSkip ts 6 s7
  (s8, if s8.2 = 0 then (nRoad D.1 ((pOf ts D s1.1).getD 0) ((pOf ts D s2.1).getD 0) (nA ts s4.1), upN D.2.1 (nR D.1) (nA ts s6.1), D.2.2.1, D.2.2.2) else D)
def mTrade (ts : List CT) (D : DD) (s : Nat × Nat) : (Nat × Nat) × DD :=
  let s1 := sOpen ts (decide (nT D.1 < 6)) 5 s
  let s2 := sPlace ts D.1 D.2.2.2 none s1
  let s3 := sPlace ts D.1 D.2.2.2 (pOf ts D s1.1) s2
  let s4 := sSkip ts 19 s3
  let s5 := sStuff ts D.1 D.2.2.1 s4
  let s6 := sSkip ts 27 s5
  let s7 := sNum ts 1 999 s6
  let s8 := sSkip ts 6 s7
  (s8, if s8.2 = 0 then (nTrade D.1 ((pOf ts D s1.1).getD 0) ((pOf ts D s2.1).getD 0) ((nmOf D.2.2.1 (nS D.1) (vA ts s4.1)).getD 0) (nA ts s6.1), D.2.1, D.2.2.1, D.2.2.2) else D)
abbrev DrD (h : ax_H) (D : DD) (cs : List Nat) (lb le : Nat → Nat) (hl : Int32) : Prop := Dr h D.1 D.2.1 D.2.2.1 D.2.2.2 cs lb le hl
def rdP : Nat → Prop := fun j => (71 ≤ j ∧ j ≤ 87) ∨ j = 88
variable {D : DD}
theorem Rd.dr {h' : ax_H} (a : Rd h ts l s) (hb : But h h' (fun j => 71 ≤ j ∧ j ≤ 87)) : Rd h' ts l s := a.kept (fun j z1 z2 => hb.2.2 j (by omega))
theorem DrD.rd {h' : ax_H} (a : DrD h D cs lb le hl) (hb : But h h' (fun j => j = 88)) : DrD h' D cs lb le hl := a.kept (fun j z1 z2 => hb.2.2 j (by omega))
theorem c_readPlace (ht : tsOK ts) (hs : sOKs ts s) (hD : DrD h D cs lb le hl) (hB : DrB D.1 cs lb le) (hR : Rd h ts l s) (hq : ∀ h', But h h' rdP → Rd h' ts l (mPlace ts D s).1 → DrD h' (mPlace ts D s).2 cs lb le hl → Q (.inl none) h') : X G (d + 3) mX2_readPlace 0 (ax_in 3 [.ref 88]) [] h Q := by
  have e71 := hD.1
  have e88 := hR.1
  have hP7 := hB.2.1
  have o1 : sOKs ts (sOpen ts (decide (nP D.1 < 7)) 5 s) := sOpen_ok (by omega) ht hs
  have o2 : sOKs ts (sName ts D.1 D.2.2.1 D.2.2.2 (sOpen ts (decide (nP D.1 < 7)) 5 s)) := sName_ok ht o1
  have o3 : sOKs ts (sSkip ts 6 (sName ts D.1 D.2.2.1 D.2.2.2 (sOpen ts (decide (nP D.1 < 7)) 5 s))) := sSkip_ok ht o2
  have body : X G (d + 3) mX2_readPlace 18 [some (.ref 88), none, none] [.int (bI (decide (nP D.1 < 7))), .ref 88] h Q := by
    unfold mPlace at hq
    dsimp only at hq
    refine ax_iconst dX2_readPlace_18 (v := nI 5) (by decide) ?_
    refine ax_cV dX2_readPlace_19 mmX2_open lkX2_84 miX2_open msX2_open (ax_recv_of e88 rfl) rfl rfl (Nat.le_of_ble_eq_true rfl) (Nat.le_of_ble_eq_true rfl) rfl rfl (c_ropen (d := d + 1) (by omega) ht hs hR (fun h1 hb1 hR1 => ⟨_, rfl, ?_⟩))
    have hD1 := hD.rd hb1
    have e88 := hR1.1
    refine ax_aload_n dX2_readPlace_22 rfl ?_
    refine ax_cV dX2_readPlace_23 mmX2_freshName lkX2_88 miX2_freshName msX2_freshName (ax_recv_of e88 rfl) rfl rfl (Nat.le_of_ble_eq_true rfl) (Nat.le_of_ble_eq_true rfl) rfl rfl (c_rname (d := d) ht o1 hD1 hB hR1 (fun h2 hb2 hR2 => ⟨_, rfl, ?_⟩))
    have hD2 := hD1.rd hb2
    have e88 := hR2.1
    refine ax_lstore_n dX2_readPlace_26 (Nat.le_of_ble_eq_true rfl) ?_
    refine ax_aload_n dX2_readPlace_27 rfl ?_
    refine ax_gets (k := 6) dX2_readPlace_28 (by decide) slX2_106 (ax_tkZ (by decide) rfl) ?_
    refine ax_cV dX2_readPlace_31 mmX2_skip lkX2_95 miX2_skip msX2_skip (ax_recv_of e88 rfl) rfl rfl (Nat.le_of_ble_eq_true rfl) (Nat.le_of_ble_eq_true rfl) rfl rfl (c_rskip (d := d + 1) (by omega) ht o2 hR2 (fun h3 hb3 hR3 => ⟨_, rfl, ?_⟩))
    have hD3 := hD2.rd hb3
    have e88 := hR3.1
    have e71 := hD3.1
    have hb : But h h3 rdP := ((hb1.tr hb2).tr hb3).wide (fun j z => Or.inr z)
    generalize hs3 : sSkip ts 6 (sName ts D.1 D.2.2.1 D.2.2.2 (sOpen ts (decide (nP D.1 < 7)) 5 s)) = s3 at *
    by_cases hc : s3.2 = 0
    · rw [if_pos hc] at hq
      rw [← hs3] at hc
      obtain ⟨c1, -⟩ := sSkip_0 hc
      obtain ⟨c2, -⟩ := sName_0 c1
      obtain ⟨c3, c4⟩ := sOpen_0 (by omega) c2
      rw [hs3] at hc
      refine ax_aload_n dX2_readPlace_34 rfl ?_
      refine ax_getf dX2_readPlace_35 flX2_28 e88 rfl ?_
      refine ax_if_neF 49 dX2_readPlace_38 (by decide) (by rw [hc]; rfl) ?_
      refine ax_aload_n dX2_readPlace_41 rfl ?_
      refine ax_getf dX2_readPlace_42 flX2_24 e88 rfl ?_
      refine ax_lload_n dX2_readPlace_45 rfl ?_
      refine ax_cV dX2_readPlace_46 mmX1_addPlace lkX2_116 miX1_addPlace msX1_addPlace (ax_recv_of e71 rfl) rfl rfl (Nat.le_of_ble_eq_true rfl) (Nat.le_of_ble_eq_true rfl) rfl rfl (c_addPlace (d := d + 2) (of_decide_eq_true c4) hD3 (fun h4 hb4 hD4 => ⟨_, rfl, ?_⟩))
      exact ax_return dX2_readPlace_49 rfl (hq _ (hb.tr (hb4.wide (fun j z => Or.inl (by omega)))) (hR3.dr (hb4.wide (fun j z => by omega))) hD4)
    · rw [if_neg hc] at hq
      have o3' := o3.2
      refine ax_aload_n dX2_readPlace_34 rfl ?_
      refine ax_getf dX2_readPlace_35 flX2_28 e88 rfl ?_
      refine ax_if_neT 49 dX2_readPlace_38 (by decide) (fun q => hc ((nI_eq (by omega) (by omega)).mp q)) ?_
      exact ax_return dX2_readPlace_49 rfl (hq _ hb hR3 hD3)
  by_cases h7 : nP D.1 < 7
  · rw [show bI (decide (nP D.1 < 7)) = nI 1 from by rw [decide_eq_true h7]; rfl] at body
    refine ax_aload_n dX2_readPlace_0 rfl ?_
    refine ax_aload_n dX2_readPlace_1 rfl ?_
    refine ax_getf dX2_readPlace_2 flX2_24 e88 rfl ?_
    refine ax_getf dX2_readPlace_5 flX2_113 e71 rfl ?_
    refine ax_bipush dX2_readPlace_8 (v := nI 7) (by decide) ?_
    refine ax_icmp_geF 17 dX2_readPlace_10 (by decide) (nI_ge h7 (by omega)) ?_
    refine ax_iconst dX2_readPlace_13 (v := nI 1) (by decide) ?_
    refine ax_goto 18 dX2_readPlace_14 (by decide) ?_
    exact body
  · rw [show bI (decide (nP D.1 < 7)) = nI 0 from by rw [decide_eq_false h7]; rfl] at body
    refine ax_aload_n dX2_readPlace_0 rfl ?_
    refine ax_aload_n dX2_readPlace_1 rfl ?_
    refine ax_getf dX2_readPlace_2 flX2_24 e88 rfl ?_
    refine ax_getf dX2_readPlace_5 flX2_113 e71 rfl ?_
    refine ax_bipush dX2_readPlace_8 (v := nI 7) (by decide) ?_
    refine ax_icmp_geT 17 dX2_readPlace_10 (by decide) (nI_le (by omega) (by omega)) ?_
    refine ax_iconst dX2_readPlace_17 (v := nI 0) (by decide) ?_
    exact body
end RE3
