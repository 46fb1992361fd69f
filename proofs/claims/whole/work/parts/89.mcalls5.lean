section MB6
variable {G : ax_G} {d : Nat} {h : ax_H} {Q : ax_O → ax_H → Prop} {N : Nt} {σ : Sd} {μ : Nat → Option Sd} {th ta : Int32}
theorem k_purpose {x w z : Int32} {b y : Nat} (hN : nOK N) (hp9 : ∀ c, σ 3 c ≤ 99) (hB0 : Bd N σ b y) (hb0' : 5300 ≤ b) (hb1' : b < 100000) (hy : y + 50 ≤ 28000) (hI : MoI h th ta N σ μ) (hq : ∀ h', But h h' moP → MoI h' 0 ta N σ μ → Q (.inl (some (.int (qPurpose N σ x w z)))) h') : X G (d + 13) mX12_purpose 0 (ax_in 5 [.ref 145, .int x, .int w, .int z]) [] h Q := by
  obtain ⟨si, pt, fa, co, nm, rd, bc, bm, gg, F, S, O, A, e145, hB⟩ := hI
  refine ax_aload_n dX12_purpose_0 rfl ?_
  refine ax_iconst dX12_purpose_1 (v := nI 0) (by decide) ?_
  refine ax_putf dX12_purpose_2 flX12_1 e145 (Nat.le_of_ble_eq_true rfl) (fun _ => ⟨rfl, rfl⟩) ?_
  refine ax_hp (h1 := ax_wr h 145 (eM 0 ta si pt fa co nm rd 0 0 (-1) (-1) bc bm gg)) rfl ?_
  have hb0 : But h (ax_wr h 145 (eM 0 ta si pt fa co nm rd 0 0 (-1) (-1) bc bm gg)) moP := But.rf.wr (Or.inl rfl)
  have hB := hB.kept (h' := ax_wr h 145 (eM 0 ta si pt fa co nm rd 0 0 (-1) (-1) bc bm gg)) (fun j z1 z2 => ax_wr_ne (by omega))
  have e145 : (ax_wr h 145 (eM 0 ta si pt fa co nm rd 0 0 (-1) (-1) bc bm gg)).2.2 145 = some (eM 0 ta si pt fa co nm rd 0 0 (-1) (-1) bc bm gg) := ax_wr_eq
  generalize ax_wr h 145 (eM 0 ta si pt fa co nm rd 0 0 (-1) (-1) bc bm gg) = h1 at hb0 hB e145 ⊢
  have hI1 : MoI h1 0 ta N σ μ := ⟨si, pt, fa, co, nm, rd, bc, bm, gg, F, S, O, A, e145, hB⟩
  obtain ⟨hF, hFT, hL, hM, hR, hSt, hMk⟩ := id hB
  obtain ⟨e151, e152, e153, e159, a157, a158⟩ := id hM
  obtain ⟨hS, hSc, s7, s8⟩ := id hSt
  obtain ⟨f0, f1, f2, f3, fs, fr⟩ := id hF
  have hS5 := hN.1
  have hP7 := hN.2.1
  have hR10 := hN.2.2.1
  have hT6 := hN.2.2.2.1
  unfold qPurpose at hq
  refine ax_aload_n dX12_purpose_5 rfl ?_
  refine ax_iload_n dX12_purpose_6 rfl ?_
  refine ax_cV dX12_purpose_7 mmX12_isRoad lkX12_337 miX12_isRoad msX12_isRoad (ax_recv_of e145 rfl) rfl rfl (Nat.le_of_ble_eq_true rfl) (Nat.le_of_ble_eq_true rfl) rfl rfl (k_isRoad e145 e151 ⟨_, rfl, ?_⟩)
  rw [f2]
  rcases ix_cases (n := nR N) (by omega) x with ⟨hs, hb, -⟩ | ⟨r, hr, rfl, hs, hb⟩
  · rw [hs] at hq
    rw [hb]
    refine ax_if_eqT 28 dX12_purpose_10 (by decide) rfl ?_
    refine ax_iconst dX12_purpose_28 (v := -1) (by decide) ?_
    exact ax_ireturn dX12_purpose_29 rfl (hq h1 hb0 hI1)
  · rw [hs] at hq
    rw [hb]
    refine ax_if_eqF 28 dX12_purpose_10 (by decide) (by decide) ?_
    refine ax_aload_n dX12_purpose_13 rfl ?_
    refine ax_iload_n dX12_purpose_14 rfl ?_
    refine ax_cV dX12_purpose_15 mmX12_isStuff lkX12_330 miX12_isStuff msX12_isStuff (ax_recv_of e145 rfl) rfl rfl (Nat.le_of_ble_eq_true rfl) (Nat.le_of_ble_eq_true rfl) rfl rfl (k_isStuff e145 e151 ⟨_, rfl, ?_⟩)
    rw [f0]
    rcases ix_cases (n := nS N) (by omega) w with ⟨hw, hb, -⟩ | ⟨s, hs5, rfl, hw, hb⟩
    · rw [hw] at hq
      rw [hb]
      refine ax_if_eqT 28 dX12_purpose_18 (by decide) rfl ?_
      refine ax_iconst dX12_purpose_28 (v := -1) (by decide) ?_
      exact ax_ireturn dX12_purpose_29 rfl (hq h1 hb0 hI1)
    · rw [hw] at hq
      rw [hb]
      refine ax_if_eqF 28 dX12_purpose_18 (by decide) (by decide) ?_
      refine ax_iload_n dX12_purpose_21 rfl ?_
      refine ax_cS dX12_purpose_22 mmX12_areYears lkX12_343 mtX12_areYears rfl rfl (Nat.le_of_ble_eq_true rfl) (Nat.le_of_ble_eq_true rfl) rfl rfl (k_areYears ⟨_, rfl, ?_⟩)
      rcases yrs_cases z with ⟨hz, hb⟩ | ⟨n, hn1, hn50, rfl, hz, hb⟩
      · rw [hz] at hq
        rw [hb]
        refine ax_if_neF 30 dX12_purpose_25 (by decide) rfl ?_
        refine ax_iconst dX12_purpose_28 (v := -1) (by decide) ?_
        exact ax_ireturn dX12_purpose_29 rfl (hq h1 hb0 hI1)
      · rw [hz] at hq
        rw [hb]
        dsimp only at hq
        generalize hV : fst (puB N σ r s n) 0 100 = V at hq
        have loop : ∀ (m i : Nat) (bc bm : Int32) (S2 : Nat → Int32) (h2 : ax_H), i + m = 100 → But h1 h2 psP → h2.2.2 145 = some (eM 0 ta si pt fa co nm rd 0 0 (-1) (-1) bc bm gg) → MoB h2 F S2 O A N σ μ → V = fst (puB N σ r s n) i m → X G (d + 13) mX12_purpose 33 [some (.ref 145), some (.int (nI r)), some (.int (nI s)), some (.int (nI n)), some (.int (nI i))] [] h2 Q := by
          intro m
          induction m with
          | zero =>
            intro i bc bm S2 h2 hi hbb e145 hB2 hR'
            obtain rfl : i = 100 := by omega
            have hq2 := hq h2 (hb0.tr (hbb.wide (fun j z => by unfold psP at z; unfold moP; omega))) ⟨si, pt, fa, co, nm, rd, bc, bm, gg, F, S2, O, A, e145, hB2⟩
            rw [hR'] at hq2
            refine ax_iload dX12_purpose_33 rfl ?_
            refine ax_bipush dX12_purpose_35 (v := nI 100) (by decide) ?_
            refine ax_icmp_geT 61 dX12_purpose_37 (by decide) (by decide) ?_
            refine ax_iconst dX12_purpose_61 (v := -1) (by decide) ?_
            exact ax_ireturn dX12_purpose_62 rfl hq2
          | succ m ih =>
            intro i bc bm S2 h2 hi hbb e145 hB2 hR'
            refine ax_iload dX12_purpose_33 rfl ?_
            refine ax_bipush dX12_purpose_35 (v := nI 100) (by decide) ?_
            refine ax_icmp_geF 61 dX12_purpose_37 (by decide) (nI_ge (by omega) (by decide)) ?_
            refine ax_aload_n dX12_purpose_40 rfl ?_
            refine ax_iload_n dX12_purpose_41 rfl ?_
            refine ax_iload_n dX12_purpose_42 rfl ?_
            refine ax_iload dX12_purpose_43 rfl ?_
            refine ax_iload_n dX12_purpose_45 rfl ?_
            refine ax_cV dX12_purpose_46 mmX12_holds lkX12_355 miX12_holds msX12_holds (ax_recv_of e145 rfl) rfl rfl (Nat.le_of_ble_eq_true rfl) (Nat.le_of_ble_eq_true rfl) rfl rfl (k_holds (d := d) (p := i) hr hs5 (by omega) (hp9 _) hn50 hN hB0 hb0' hb1' hy hB2 e145 (fun h3 S3 bc3 bm3 hb3 e3 hB3 => ⟨_, rfl, ?_⟩))
            have hbb3 := hbb.tr hb3
            by_cases hc : puB N σ r s n i = true
            · have hq2 := hq h3 (hb0.tr (hbb3.wide (fun j z => by unfold psP at z; unfold moP; omega))) ⟨si, pt, fa, co, nm, rd, bc3, bm3, gg, F, S3, O, A, e3, hB3⟩
              unfold fst at hR'
              rw [if_pos hc] at hR'
              rw [hR'] at hq2
              rw [if_pos hc]
              refine ax_if_eqF 55 dX12_purpose_49 (by decide) (by decide) ?_
              refine ax_iload dX12_purpose_52 rfl ?_
              exact ax_ireturn dX12_purpose_54 rfl hq2
            · unfold fst at hR'
              rw [if_neg hc] at hR'
              rw [if_neg hc]
              refine ax_if_eqT 55 dX12_purpose_49 (by decide) rfl ?_
              refine ax_iinc dX12_purpose_55 rfl (ax_inc 1) ?_
              refine ax_goto 33 dX12_purpose_58 (by decide) ?_
              rw [nI_add i 1]
              exact ih (i + 1) bc3 bm3 S3 h3 (by omega) hbb3 e3 hB3 hR'
        refine ax_if_neT 30 dX12_purpose_25 (by decide) (by decide) ?_
        refine ax_iconst dX12_purpose_30 (v := nI 0) (by decide) ?_
        refine ax_istore dX12_purpose_31 (Nat.le_of_ble_eq_true rfl) ?_
        exact loop 100 0 bc bm S h1 (by omega) But.rf e145 hB hV.symm
/-- the least so far, as the model keeps it -/
def lsF : Option (Nat × Nat) → Int32
  | none => nI 100000000
  | some a => nI a.2
theorem td_C {F : Nat → Int32} {T s : Nat} {tr : Nat → Nat → Nat} (a : FnT F T tr) (hs : s < 100) : TdI F (nI s) T (trC tr s) := fun t ht i hi => by
  unfold tdF trC
  by_cases hc : i = 2
  · rw [if_pos ⟨hc, nI_pos (by omega)⟩, if_pos hc]
  · rw [if_neg (fun q => hc q.1), if_neg hc]
    exact a t ht i hi
theorem k_table {x w : Int32} {b y : Nat} (hN : nOK N) (hB0 : Bd N σ b y) (hb0' : 5300 ≤ b) (hb1' : b < 100000) (hy : y + 50 ≤ 28000) (hI : MoI h th ta N σ μ) (hq : ∀ h', But h h' moP → MoI h' 0 ta N σ μ → Q (.inl (some (.int (qTable N σ x w)))) h') : X G (d + 13) mX12_table 0 (ax_in 7 [.ref 145, .int x, .int w]) [] h Q := by
  obtain ⟨si, pt, fa, co, nm, rd, bc, bm, gg, F, S, O, A, e145, hB⟩ := hI
  refine ax_aload_n dX12_table_0 rfl ?_
  refine ax_iconst dX12_table_1 (v := nI 0) (by decide) ?_
  refine ax_putf dX12_table_2 flX12_1 e145 (Nat.le_of_ble_eq_true rfl) (fun _ => ⟨rfl, rfl⟩) ?_
  refine ax_hp (h1 := ax_wr h 145 (eM 0 ta si pt fa co nm rd 0 0 (-1) (-1) bc bm gg)) rfl ?_
  have hb0 : But h (ax_wr h 145 (eM 0 ta si pt fa co nm rd 0 0 (-1) (-1) bc bm gg)) moP := But.rf.wr (Or.inl rfl)
  have hB := hB.kept (h' := ax_wr h 145 (eM 0 ta si pt fa co nm rd 0 0 (-1) (-1) bc bm gg)) (fun j z1 z2 => ax_wr_ne (by omega))
  have e145 : (ax_wr h 145 (eM 0 ta si pt fa co nm rd 0 0 (-1) (-1) bc bm gg)).2.2 145 = some (eM 0 ta si pt fa co nm rd 0 0 (-1) (-1) bc bm gg) := ax_wr_eq
  generalize ax_wr h 145 (eM 0 ta si pt fa co nm rd 0 0 (-1) (-1) bc bm gg) = h1 at hb0 hB e145 ⊢
  have hI1 : MoI h1 0 ta N σ μ := ⟨si, pt, fa, co, nm, rd, bc, bm, gg, F, S, O, A, e145, hB⟩
  obtain ⟨hF, hFT, hL, hM, hR, hSt, hMk⟩ := id hB
  obtain ⟨e151, e152, e153, e159, a157, a158⟩ := id hM
  obtain ⟨hS, hSc, s7, s8⟩ := id hSt
  obtain ⟨f0, f1, f2, f3, fs, fr⟩ := id hF
  have hS5 := hN.1
  have hP7 := hN.2.1
  have hR10 := hN.2.2.1
  have hT6 := hN.2.2.2.1
  unfold qTable at hq
  have hT0 : F 3 + 0 = nI (nT N) := by rw [f3]; exact Int32.add_zero _
  refine ax_iload_n dX12_table_5 rfl ?_
  refine ax_cS dX12_table_6 mmX12_areYears lkX12_343 mtX12_areYears rfl rfl (Nat.le_of_ble_eq_true rfl) (Nat.le_of_ble_eq_true rfl) rfl rfl (k_areYears ⟨_, rfl, ?_⟩)
  rcases yrs_cases w with ⟨hw, hb⟩ | ⟨n, hn1, hn50, rfl, hw, hb⟩
  · rw [hw] at hq
    rw [hb]
    refine ax_if_eqT 32 dX12_table_9 (by decide) rfl ?_
    refine ax_iconst dX12_table_32 (v := -1) (by decide) ?_
    exact ax_ireturn dX12_table_33 rfl (hq h1 hb0 hI1)
  · rw [hw] at hq
    rw [hb]
    dsimp only at hq
    have hle : ∀ s, hA N σ (trC (trN N) s) (nT N) n none ≤ 10000 := fun s => by
      have := hT_le N (yN N 0 (trC (trN N) s) (nT N) none σ n)
      show hT N _ ≤ _
      omega
    have once : ∀ (k : Nat) (v3 v4 : Int32) (o6 : Option Value) (bc bm : Int32) (S2 : Nat → Int32) (h2 : ax_H), k < nS N → But h1 h2 psP → h2.2.2 145 = some (eM 0 ta si pt fa co nm rd 0 0 (-1) (-1) bc bm gg) → MoB h2 F S2 O A N σ μ → (∀ (h3 : ax_H) (bc bm : Int32) (S3 : Nat → Int32) (x6 : Int32), But h1 h3 psP → h3.2.2 145 = some (eM 0 ta si pt fa co nm rd 0 0 (-1) (-1) bc bm gg) → MoB h3 F S3 O A N σ μ → X G (d + 13) mX12_table 52 [some (.ref 145), some (.int x), some (.int (nI n)), some (.int (if nI (hA N σ (trC (trN N) k) (nT N) n none) < v4 then nI k else v3)), some (.int (if nI (hA N σ (trC (trN N) k) (nT N) n none) < v4 then nI (hA N σ (trC (trN N) k) (nT N) n none) else v4)), some (.int (nI (k + 1))), some (.int x6)] [] h3 Q) → X G (d + 13) mX12_table 71 [some (.ref 145), some (.int x), some (.int (nI n)), some (.int v3), some (.int v4), some (.int (nI k)), o6] [] h2 Q := by
      intro k v3 v4 o6 bc bm S2 h2 hk hbb e145 hB2 hnx
      refine ax_aload_n dX12_table_71 rfl ?_
      refine ax_iload dX12_table_72 rfl ?_
      refine ax_putf dX12_table_74 flX12_106 e145 (Nat.le_of_ble_eq_true rfl) (fun _ => ⟨rfl, rfl⟩) ?_
      refine ax_hp (h1 := ax_wr h2 145 (eM 0 ta si pt fa co nm rd 0 0 (nI k) (-1) bc bm gg)) rfl ?_
      have hb3 : But h1 (ax_wr h2 145 (eM 0 ta si pt fa co nm rd 0 0 (nI k) (-1) bc bm gg)) psP := hbb.wr (by unfold psP; omega)
      have hB3 := hB2.kept (h' := ax_wr h2 145 (eM 0 ta si pt fa co nm rd 0 0 (nI k) (-1) bc bm gg)) (fun j z1 z2 => ax_wr_ne (by omega))
      have e145 : (ax_wr h2 145 (eM 0 ta si pt fa co nm rd 0 0 (nI k) (-1) bc bm gg)).2.2 145 = some (eM 0 ta si pt fa co nm rd 0 0 (nI k) (-1) bc bm gg) := ax_wr_eq
      generalize ax_wr h2 145 (eM 0 ta si pt fa co nm rd 0 0 (nI k) (-1) bc bm gg) = h3 at hb3 hB3 e145 ⊢
      obtain ⟨-, -, -, hM3, hR3, hSt3, hMk3⟩ := id hB3
      refine ax_aload_n dX12_table_77 rfl ?_
      refine ax_iload_n dX12_table_78 rfl ?_
      refine ax_cV dX12_table_79 mmX12_holesBehind lkX12_362 miX12_holesBehind msX12_holesBehind (ax_recv_of e145 rfl) rfl rfl (Nat.le_of_ble_eq_true rfl) (Nat.le_of_ble_eq_true rfl) rfl rfl (k_holesBehind (d := d) (tr := trC (trN N) k) (swo := none) (trC_ok hk hN.tr) (td_C hFT (by omega)) hT0 (Or.inl rfl) rfl (fun r hr => by cases hr) hN hB0 hb0' hb1' (by omega) hF hL hM3 hR3 hSt3.1 hSt3.2.1 e145 (fun h4 S4 bc4 bm4 hb4 e4 hM4 hR4 hlo4 => ⟨_, rfl, ?_⟩))
      have hB4 := hB3.bk hN hb4 hM4 hR4 hlo4
      have key := hnx h4 bc4 bm4 S4 (nI (hA N σ (trC (trN N) k) (nT N) n none)) (hb3.tr hb4) e4 hB4
      by_cases hc : nI (hA N σ (trC (trN N) k) (nT N) n none) < v4
      · rw [if_pos hc, if_pos hc] at key
        refine ax_istore dX12_table_82 (Nat.le_of_ble_eq_true rfl) ?_
        refine ax_iload dX12_table_84 rfl ?_
        refine ax_iload dX12_table_86 rfl ?_
        refine ax_icmp_geF 96 dX12_table_88 (by decide) (fun q => Int32.not_le.mpr hc q) ?_
        refine ax_iload dX12_table_91 rfl ?_
        refine ax_goto 97 dX12_table_93 (by decide) ?_
        refine ax_istore_n dX12_table_97 (Nat.le_of_ble_eq_true rfl) ?_
        refine ax_iload dX12_table_98 rfl ?_
        refine ax_iload dX12_table_100 rfl ?_
        refine ax_icmp_geF 110 dX12_table_102 (by decide) (fun q => Int32.not_le.mpr hc q) ?_
        refine ax_iload dX12_table_105 rfl ?_
        refine ax_goto 112 dX12_table_107 (by decide) ?_
        refine ax_istore dX12_table_112 (Nat.le_of_ble_eq_true rfl) ?_
        refine ax_iinc dX12_table_114 rfl (ax_inc 1) ?_
        refine ax_goto 52 dX12_table_117 (by decide) ?_
        rw [nI_add k 1]
        exact key
      · rw [if_neg hc, if_neg hc] at key
        refine ax_istore dX12_table_82 (Nat.le_of_ble_eq_true rfl) ?_
        refine ax_iload dX12_table_84 rfl ?_
        refine ax_iload dX12_table_86 rfl ?_
        refine ax_icmp_geT 96 dX12_table_88 (by decide) (Int32.not_lt.mp hc) ?_
        refine ax_iload_n dX12_table_96 rfl ?_
        refine ax_istore_n dX12_table_97 (Nat.le_of_ble_eq_true rfl) ?_
        refine ax_iload dX12_table_98 rfl ?_
        refine ax_iload dX12_table_100 rfl ?_
        refine ax_icmp_geT 110 dX12_table_102 (by decide) (Int32.not_lt.mp hc) ?_
        refine ax_iload dX12_table_110 rfl ?_
        refine ax_istore dX12_table_112 (Nat.le_of_ble_eq_true rfl) ?_
        refine ax_iinc dX12_table_114 rfl (ax_inc 1) ?_
        refine ax_goto 52 dX12_table_117 (by decide) ?_
        rw [nI_add k 1]
        exact key
    refine ax_if_eqF 32 dX12_table_9 (by decide) (by decide) ?_
    refine ax_aload_n dX12_table_12 rfl ?_
    refine ax_cV dX12_table_13 mmX12_stuffs lkX12_273 miX12_stuffs msX12_stuffs (ax_recv_of e145 rfl) rfl rfl (Nat.le_of_ble_eq_true rfl) (Nat.le_of_ble_eq_true rfl) rfl rfl (k_stuffs e145 e151 ⟨_, rfl, ?_⟩)
    rw [f0]
    by_cases hz : nS N = 0
    · have hq1 := hq h1 hb0 hI1
      have hq2 : Q (.inl (some (.int (-1)))) h1 := by
        by_cases hx : x = -1
        · rw [if_pos hx, hz] at hq1
          exact hq1
        · rw [if_neg hx] at hq1
          rcases ix_cases (n := nS N) (by omega) x with ⟨hs, -⟩ | ⟨j, hj, -⟩
          · rw [hs] at hq1
            exact hq1
          · omega
      refine ax_if_eqT 32 dX12_table_16 (by decide) (by rw [hz]; rfl) ?_
      refine ax_iconst dX12_table_32 (v := -1) (by decide) ?_
      exact ax_ireturn dX12_table_33 rfl hq2
    · refine ax_if_eqF 32 dX12_table_16 (by decide) (nI_ne0 (by omega) (by omega)) ?_
      by_cases hx : x = -1
      · rw [if_pos hx] at hq
        subst hx
        have loop : ∀ (m i : Nat) (o6 : Option Value) (bc bm : Int32) (S2 : Nat → Int32) (h2 : ax_H), i + m = nS N → But h1 h2 psP → h2.2.2 145 = some (eM 0 ta si pt fa co nm rd 0 0 (-1) (-1) bc bm gg) → MoB h2 F S2 O A N σ μ → X G (d + 13) mX12_table 52 [some (.ref 145), some (.int (-1)), some (.int (nI n)), some (.int (tbO (tb (fun s => hA N σ (trC (trN N) s) (nT N) n none) i))), some (.int (lsF (tb (fun s => hA N σ (trC (trN N) s) (nT N) n none) i))), some (.int (nI i)), o6] [] h2 Q := by
          intro m
          induction m with
          | zero =>
            intro i o6 bc bm S2 h2 hi hbb e145 hB2
            obtain rfl : i = nS N := by omega
            refine ax_iload dX12_table_52 rfl ?_
            refine ax_iload_n dX12_table_54 rfl ?_
            refine ax_if_geF 65 dX12_table_55 (by decide) (by decide) ?_
            refine ax_aload_n dX12_table_58 rfl ?_
            refine ax_cV dX12_table_59 mmX12_stuffs lkX12_273 miX12_stuffs msX12_stuffs (ax_recv_of e145 rfl) rfl rfl (Nat.le_of_ble_eq_true rfl) (Nat.le_of_ble_eq_true rfl) rfl rfl (k_stuffs e145 hB2.2.2.2.1.1 ⟨_, rfl, ?_⟩)
            rw [f0]
            refine ax_goto 68 dX12_table_62 (by decide) ?_
            refine ax_icmp_geT 120 dX12_table_68 (by decide) (Int32.le_refl _) ?_
            refine ax_iload_n dX12_table_120 rfl ?_
            refine ax_if_geF 128 dX12_table_121 (by decide) (by decide) ?_
            refine ax_iload_n dX12_table_124 rfl ?_
            refine ax_goto 130 dX12_table_125 (by decide) ?_
            exact ax_ireturn dX12_table_130 rfl (hq h2 (hb0.tr (hbb.wide (fun j z => by unfold psP at z; unfold moP; omega))) ⟨si, pt, fa, co, nm, rd, bc, bm, gg, F, S2, O, A, e145, hB2⟩)
          | succ m ih =>
            intro i o6 bc bm S2 h2 hi hbb e145 hB2
            refine ax_iload dX12_table_52 rfl ?_
            refine ax_iload_n dX12_table_54 rfl ?_
            refine ax_if_geF 65 dX12_table_55 (by decide) (by decide) ?_
            refine ax_aload_n dX12_table_58 rfl ?_
            refine ax_cV dX12_table_59 mmX12_stuffs lkX12_273 miX12_stuffs msX12_stuffs (ax_recv_of e145 rfl) rfl rfl (Nat.le_of_ble_eq_true rfl) (Nat.le_of_ble_eq_true rfl) rfl rfl (k_stuffs e145 hB2.2.2.2.1.1 ⟨_, rfl, ?_⟩)
            rw [f0]
            refine ax_goto 68 dX12_table_62 (by decide) ?_
            refine ax_icmp_geF 120 dX12_table_68 (by decide) (nI_ge (by omega) (by omega)) ?_
            refine once i _ _ o6 bc bm S2 h2 (by omega) hbb e145 hB2 (fun h3 bc3 bm3 S3 x6 hb3 e3 hB3 => ?_)
            have key := ih (i + 1) (some (.int x6)) bc3 bm3 S3 h3 (by omega) hb3 e3 hB3
            have hl := hle i
            have hstep : tb (fun s => hA N σ (trC (trN N) s) (nT N) n none) (i + 1) = match tb (fun s => hA N σ (trC (trN N) s) (nT N) n none) i with
              | none => some (i, hA N σ (trC (trN N) i) (nT N) n none)
              | some a => if hA N σ (trC (trN N) i) (nT N) n none < a.2 then some (i, hA N σ (trC (trN N) i) (nT N) n none) else some a := rfl
            rw [hstep] at key
            cases htb : tb (fun s => hA N σ (trC (trN N) s) (nT N) n none) i with
            | none =>
              rw [htb] at key
              dsimp only at key
              rw [show lsF none = nI 100000000 from rfl, if_pos (nI_lt (by omega) (by decide)), if_pos (nI_lt (by omega) (by decide))]
              exact key
            | some a =>
              rw [htb] at key
              dsimp only at key
              have ha := (tb_le i a htb).2
              have hla := hle a.1
              have ha2 : a.2 ≤ 10000 := by rw [ha]; exact hla
              rw [show lsF (some a) = nI a.2 from rfl]
              by_cases hc : hA N σ (trC (trN N) i) (nT N) n none < a.2
              · rw [if_pos hc] at key
                rw [if_pos (nI_lt hc (by omega)), if_pos (nI_lt hc (by omega))]
                exact key
              · rw [if_neg hc] at key
                rw [if_neg (nI_nlt (by omega) (by omega)), if_neg (nI_nlt (by omega) (by omega))]
                exact key
        refine ax_iload_n dX12_table_19 rfl ?_
        refine ax_iconst dX12_table_20 (v := -1) (by decide) ?_
        refine ax_icmp_eqT 34 dX12_table_21 (by decide) rfl ?_
        refine ax_iconst dX12_table_34 (v := -1) (by decide) ?_
        refine ax_istore_n dX12_table_35 (Nat.le_of_ble_eq_true rfl) ?_
        refine ax_ldcw dX12_table_36 cnX12_300 ?_
        refine ax_istore dX12_table_39 (Nat.le_of_ble_eq_true rfl) ?_
        refine ax_iload_n dX12_table_41 rfl ?_
        refine ax_if_geF 49 dX12_table_42 (by decide) (by decide) ?_
        refine ax_iconst dX12_table_45 (v := nI 0) (by decide) ?_
        refine ax_goto 50 dX12_table_46 (by decide) ?_
        refine ax_istore dX12_table_50 (Nat.le_of_ble_eq_true rfl) ?_
        exact loop (nS N) 0 none bc bm S h1 (by omega) But.rf e145 hB
      · rw [if_neg hx] at hq
        refine ax_iload_n dX12_table_19 rfl ?_
        refine ax_iconst dX12_table_20 (v := -1) (by decide) ?_
        refine ax_icmp_eqF 34 dX12_table_21 (by decide) hx ?_
        refine ax_aload_n dX12_table_24 rfl ?_
        refine ax_iload_n dX12_table_25 rfl ?_
        refine ax_cV dX12_table_26 mmX12_isStuff lkX12_330 miX12_isStuff msX12_isStuff (ax_recv_of e145 rfl) rfl rfl (Nat.le_of_ble_eq_true rfl) (Nat.le_of_ble_eq_true rfl) rfl rfl (k_isStuff e145 e151 ⟨_, rfl, ?_⟩)
        rw [f0]
        rcases ix_cases (n := nS N) (by omega) x with ⟨hs, hb, -⟩ | ⟨s, hs5, rfl, hs, hb⟩
        · rw [hs] at hq
          rw [hb]
          refine ax_if_neF 34 dX12_table_29 (by decide) rfl ?_
          refine ax_iconst dX12_table_32 (v := -1) (by decide) ?_
          exact ax_ireturn dX12_table_33 rfl (hq h1 hb0 hI1)
        · rw [hs] at hq
          rw [hb]
          dsimp only at hq
          have hl := hle s
          refine ax_if_neT 34 dX12_table_29 (by decide) (by decide) ?_
          refine ax_iconst dX12_table_34 (v := -1) (by decide) ?_
          refine ax_istore_n dX12_table_35 (Nat.le_of_ble_eq_true rfl) ?_
          refine ax_ldcw dX12_table_36 cnX12_300 ?_
          refine ax_istore dX12_table_39 (Nat.le_of_ble_eq_true rfl) ?_
          refine ax_iload_n dX12_table_41 rfl ?_
          refine ax_if_geT 49 dX12_table_42 (by decide) (nI_pos' (by omega)) ?_
          refine ax_iload_n dX12_table_49 rfl ?_
          refine ax_istore dX12_table_50 (Nat.le_of_ble_eq_true rfl) ?_
          refine ax_iload dX12_table_52 rfl ?_
          refine ax_iload_n dX12_table_54 rfl ?_
          refine ax_if_geT 65 dX12_table_55 (by decide) (nI_pos' (by omega)) ?_
          refine ax_iload_n dX12_table_65 rfl ?_
          refine ax_iconst dX12_table_66 (v := nI 1) (by decide) ?_
          refine ax_iadd dX12_table_67 ?_
          rw [nI_add s 1]
          refine ax_icmp_geF 120 dX12_table_68 (by decide) (nI_ge (by omega) (by omega)) ?_
          refine once s _ _ none bc bm S h1 hs5 But.rf e145 hB (fun h3 bc3 bm3 S3 x6 hb3 e3 hB3 => ?_)
          rw [if_pos (show nI (hA N σ (trC (trN N) s) (nT N) n none) < 100000000 from nI_lt (b := 100000000) (by omega) (by decide)), if_pos (show nI (hA N σ (trC (trN N) s) (nT N) n none) < 100000000 from nI_lt (b := 100000000) (by omega) (by decide))]
          refine ax_iload dX12_table_52 rfl ?_
          refine ax_iload_n dX12_table_54 rfl ?_
          refine ax_if_geT 65 dX12_table_55 (by decide) (nI_pos' (by omega)) ?_
          refine ax_iload_n dX12_table_65 rfl ?_
          refine ax_iconst dX12_table_66 (v := nI 1) (by decide) ?_
          refine ax_iadd dX12_table_67 ?_
          rw [nI_add s 1]
          refine ax_icmp_geT 120 dX12_table_68 (by decide) (Int32.le_refl _) ?_
          refine ax_iload_n dX12_table_120 rfl ?_
          refine ax_if_geT 128 dX12_table_121 (by decide) (nI_pos' (by omega)) ?_
          refine ax_iload dX12_table_128 rfl ?_
          exact ax_ireturn dX12_table_130 rfl (hq h3 (hb0.tr (hb3.wide (fun j z => by unfold psP at z; unfold moP; omega))) ⟨si, pt, fa, co, nm, rd, bc3, bm3, gg, F, S3, O, A, e3, hB3⟩)
end MB6
