section MCU2
variable {G : ax_G} {d : Nat} {h : ax_H} {Q : ax_O → ax_H → Prop}
variable {th ta si pt fa co nm rd ask nw os sw bc bm : Int32} {gg : Int64}
/-- the rows of a tape that is cut -/
def RwM (h : ax_H) (tp : List Nat) : Prop := ∃ f1 f2 f3, h.2.2 147 = some (eI 1002 f1) ∧ h.2.2 148 = some (eI 1002 f2) ∧ h.2.2 149 = some (eJ 1002 f3) ∧ RwF f1 f2 f3 (cutT 1000 0 tp) ∧ f1 (cutT 1000 0 tp).length = nI 0 ∧ f2 (cutT 1000 0 tp).length = nI tp.length
theorem cutT_nil : ∀ n a, cutT n a [] = []
  | 0, _ => rfl
  | _ + 1, _ => rfl
theorem k_cutAll {tp : List Nat} {g1 g2 : Nat → Int32} {g3 : Nat → Int64} (e145 : h.2.2 145 = some (eM th (nI tp.length) si pt fa co nm rd ask nw os sw bc bm gg)) (e147 : h.2.2 147 = some (eI 1002 g1)) (e148 : h.2.2 148 = some (eI 1002 g2)) (e149 : h.2.2 149 = some (eJ 1002 g3)) (hT : TpM h tp)
    (hq : ∀ h', But h h' cuP → h'.2.2 145 = some (eM th (nI 0) (nI tp.length) (nI 0) (nI 0) co nm rd ask nw os sw bc bm gg) → RwM h' tp → Q (.inl none) h') : X G (d + 2) mX12_cutAll 0 (ax_in 7 [.ref 145]) [] h Q := by
  obtain ⟨⟨ft, e146, qt⟩, h1000, hok⟩ := id hT
  obtain ⟨Z, hZ⟩ : ∃ Z, cutT 1000 0 tp = Z := ⟨_, rfl⟩
  have hZl : Z.length ≤ 1000 := by rw [← hZ]; exact (cutT_all 1000 0 tp hok).1
  have loop : ∀ (m a : Nat) (l : List Nat) (h1 : ax_H) (us : List TK3) (o3 o4 o5 o6 : Option Value) (f1 f2 : Nat → Int32) (f3 : Nat → Int64), l.length ≤ m → a ≤ tp.length → tp.drop a = l → us.length ≤ a → But h h1 cuP → h1.2.2 145 = some (eM th (nI 0) (nI tp.length) pt fa co nm rd ask nw os sw bc bm gg) → h1.2.2 147 = some (eI 1002 f1) → h1.2.2 148 = some (eI 1002 f2) → h1.2.2 149 = some (eJ 1002 f3) → RwF f1 f2 f3 us → us ++ cutT m a l = Z → X G (d + 2) mX12_cutAll 17 [some (.ref 145), some (.int (nI us.length)), some (.int (nI a)), o3, o4, o5, o6] [] h1 Q := by
    intro m
    induction m with
    | zero =>
      intro a l h1 us o3 o4 o5 o6 f1 f2 f3 hlm ha hd hus hb e145 e147 e148 e149 hF he
      have hl0 : l = [] := List.eq_nil_of_length_eq_zero (by omega)
      subst hl0
      have haL := dropN hd ha
      rw [cutT_nil, List.append_nil] at he
      refine ax_iload_n dX12_cutAll_17 rfl ?_
      refine ax_aload_n dX12_cutAll_18 rfl ?_
      refine ax_getf dX12_cutAll_19 flX12_134 e145 rfl ?_
      refine ax_icmp_geT 279 dX12_cutAll_22 (by decide) (nI_le (by omega) (by omega)) ?_
      refine ax_aload_n dX12_cutAll_279 rfl ?_
      refine ax_getf dX12_cutAll_280 flX12_24 e145 rfl ?_
      refine ax_iload_n dX12_cutAll_283 rfl ?_
      refine ax_iconst dX12_cutAll_284 (v := nI 0) (by decide) ?_
      refine ax_iast dX12_cutAll_285 e147 (ax_ix_nI (j := us.length) (by omega) (by decide)) ?_
      refine ax_aload_n dX12_cutAll_286 rfl ?_
      refine ax_getf dX12_cutAll_287 flX12_27 ((ax_wr_ne (by decide)).trans (e145)) rfl ?_
      refine ax_iload_n dX12_cutAll_290 rfl ?_
      refine ax_aload_n dX12_cutAll_291 rfl ?_
      refine ax_getf dX12_cutAll_292 flX12_134 ((ax_wr_ne (by decide)).trans (e145)) rfl ?_
      refine ax_iast dX12_cutAll_295 ((ax_wr_ne (by decide)).trans (e148)) (ax_ix_nI (j := us.length) (by omega) (by decide)) ?_
      refine ax_aload_n dX12_cutAll_296 rfl ?_
      refine ax_iconst dX12_cutAll_297 (v := nI 0) (by decide) ?_
      refine ax_putf dX12_cutAll_298 flX12_153 ((ax_wr_ne (by decide)).trans ((ax_wr_ne (by decide)).trans (e145))) (Nat.le_of_ble_eq_true rfl) (fun _ => ⟨rfl, rfl⟩) ?_
      refine ax_aload_n dX12_cutAll_301 rfl ?_
      refine ax_iconst dX12_cutAll_302 (v := nI 0) (by decide) ?_
      refine ax_putf dX12_cutAll_303 flX12_156 ax_wr_eq (Nat.le_of_ble_eq_true rfl) (fun _ => ⟨rfl, rfl⟩) ?_
      rw [ax_wr_wr]
      refine ax_return dX12_cutAll_306 rfl (hq _ (((hb.wr (by unfold cuP; omega)).wr (by unfold cuP; omega)).wr (by unfold cuP; omega)) ax_wr_eq ⟨_, _, _, ((ax_wr_ne (by decide)).trans ((ax_wr_ne (by decide)).trans (ax_wr_eq))), ((ax_wr_ne (by decide)).trans (ax_wr_eq)), ((ax_wr_ne (by decide)).trans ((ax_wr_ne (by decide)).trans ((ax_wr_ne (by decide)).trans (e149)))), ?_, ?_, ?_⟩)
      · rw [hZ, ← he]
        intro j hj
        rw [pk_un (by omega), pk_un (by omega)]
        exact hF j hj
      · rw [hZ, ← he]; exact pk_us
      · rw [hZ, ← he]; exact pk_us
    | succ m ih =>
      intro a l h1 us o3 o4 o5 o6 f1 f2 f3 hlm ha hd hus hb e145 e147 e148 e149 hF he
      have e146 := (hb.2.2 146 (by unfold cuP; omega)).trans e146
      cases l with
      | nil =>
        have haL := dropN hd ha
        rw [cutT_nil, List.append_nil] at he
        refine ax_iload_n dX12_cutAll_17 rfl ?_
        refine ax_aload_n dX12_cutAll_18 rfl ?_
        refine ax_getf dX12_cutAll_19 flX12_134 e145 rfl ?_
        refine ax_icmp_geT 279 dX12_cutAll_22 (by decide) (nI_le (by omega) (by omega)) ?_
        refine ax_aload_n dX12_cutAll_279 rfl ?_
        refine ax_getf dX12_cutAll_280 flX12_24 e145 rfl ?_
        refine ax_iload_n dX12_cutAll_283 rfl ?_
        refine ax_iconst dX12_cutAll_284 (v := nI 0) (by decide) ?_
        refine ax_iast dX12_cutAll_285 e147 (ax_ix_nI (j := us.length) (by omega) (by decide)) ?_
        refine ax_aload_n dX12_cutAll_286 rfl ?_
        refine ax_getf dX12_cutAll_287 flX12_27 ((ax_wr_ne (by decide)).trans (e145)) rfl ?_
        refine ax_iload_n dX12_cutAll_290 rfl ?_
        refine ax_aload_n dX12_cutAll_291 rfl ?_
        refine ax_getf dX12_cutAll_292 flX12_134 ((ax_wr_ne (by decide)).trans (e145)) rfl ?_
        refine ax_iast dX12_cutAll_295 ((ax_wr_ne (by decide)).trans (e148)) (ax_ix_nI (j := us.length) (by omega) (by decide)) ?_
        refine ax_aload_n dX12_cutAll_296 rfl ?_
        refine ax_iconst dX12_cutAll_297 (v := nI 0) (by decide) ?_
        refine ax_putf dX12_cutAll_298 flX12_153 ((ax_wr_ne (by decide)).trans ((ax_wr_ne (by decide)).trans (e145))) (Nat.le_of_ble_eq_true rfl) (fun _ => ⟨rfl, rfl⟩) ?_
        refine ax_aload_n dX12_cutAll_301 rfl ?_
        refine ax_iconst dX12_cutAll_302 (v := nI 0) (by decide) ?_
        refine ax_putf dX12_cutAll_303 flX12_156 ax_wr_eq (Nat.le_of_ble_eq_true rfl) (fun _ => ⟨rfl, rfl⟩) ?_
        rw [ax_wr_wr]
        refine ax_return dX12_cutAll_306 rfl (hq _ (((hb.wr (by unfold cuP; omega)).wr (by unfold cuP; omega)).wr (by unfold cuP; omega)) ax_wr_eq ⟨_, _, _, ((ax_wr_ne (by decide)).trans ((ax_wr_ne (by decide)).trans (ax_wr_eq))), ((ax_wr_ne (by decide)).trans (ax_wr_eq)), ((ax_wr_ne (by decide)).trans ((ax_wr_ne (by decide)).trans ((ax_wr_ne (by decide)).trans (e149)))), ?_, ?_, ?_⟩)
        · rw [hZ, ← he]
          intro j hj
          rw [pk_un (by omega), pk_un (by omega)]
          exact hF j hj
        · rw [hZ, ← he]; exact pk_us
        · rw [hZ, ← he]; exact pk_us
      | cons c r =>
        obtain ⟨i1, i2, i3⟩ := dropC hd
        obtain ⟨c1, c2⟩ := okS_lt (hok _ (getD_mem i1))
        rw [i2] at c1 c2
        have hlr : (c :: r).length = r.length + 1 := rfl
        have hdl : (c :: r).length = tp.length - a := by rw [← hd, List.length_drop]
        unfold cutT at he
        refine ax_iload_n dX12_cutAll_17 rfl ?_
        refine ax_aload_n dX12_cutAll_18 rfl ?_
        refine ax_getf dX12_cutAll_19 flX12_134 e145 rfl ?_
        refine ax_icmp_geF 279 dX12_cutAll_22 (by decide) (nI_ge i1 (by omega)) ?_
        refine ax_aload_n dX12_cutAll_25 rfl ?_
        refine ax_getf dX12_cutAll_26 flX12_14 e145 rfl ?_
        refine ax_iload_n dX12_cutAll_29 rfl ?_
        refine ax_iald dX12_cutAll_30 e146 (ax_ix_nI (j := a) (by omega) (by decide)) ?_
        rw [qt a i1, i2]
        refine ax_istore_n dX12_cutAll_31 (Nat.le_of_ble_eq_true rfl) ?_
        by_cases hB : isB c = true
        · rw [if_pos hB] at he
          have tail : X G (d + 2) mX12_cutAll 44 [some (.ref 145), some (.int (nI us.length)), some (.int (nI a)), some (.int (nI c)), o4, o5, o6] [] h1 Q := by
            refine ax_iinc dX12_cutAll_44 rfl (ax_inc 1) ?_
            refine ax_goto 17 dX12_cutAll_47 (by decide) ?_
            rw [nI_add a 1]
            exact ih (a + 1) r h1 us _ _ _ _ f1 f2 f3 (by omega) (by omega) i3 (by omega) hb e145 e147 e148 e149 hF he
          rcases of_decide_eq_true hB with h10 | h32
          · refine ax_iload_n dX12_cutAll_32 rfl ?_
            refine ax_bipush dX12_cutAll_33 (v := nI 10) (by decide) ?_
            refine ax_icmp_eqT 44 dX12_cutAll_35 (by decide) (by rw [h10]) ?_
            exact tail
          · refine ax_iload_n dX12_cutAll_32 rfl ?_
            refine ax_bipush dX12_cutAll_33 (v := nI 10) (by decide) ?_
            refine ax_icmp_eqF 44 dX12_cutAll_35 (by decide) (by rw [h32]; decide) ?_
            refine ax_iload_n dX12_cutAll_38 rfl ?_
            refine ax_bipush dX12_cutAll_39 (v := nI 32) (by decide) ?_
            refine ax_icmp_neF 50 dX12_cutAll_41 (by decide) (by rw [h32]) ?_
            exact tail
        · rw [if_neg hB] at he
          have hB2 : ¬ (c = 10 ∨ c = 32) := fun q => hB (decide_eq_true q)
          have store : ∀ (t : TK3) (k2 : Nat) (l2 : List Nat) (h2 : ax_H), t.1 = a → a < k2 → k2 ≤ tp.length → tp.drop k2 = l2 → But h h2 cuP → h2.2.2 145 = some (eM th (nI 0) (nI tp.length) pt fa co nm rd ask nw os sw bc bm gg) → h2.2.2 147 = some (eI 1002 (upd f1 us.length (nI (mSo t)))) → h2.2.2 148 = some (eI 1002 (upd f2 us.length (nI a))) → h2.2.2 149 = some (eJ 1002 f3) → us ++ t :: cutT m k2 l2 = Z → X G (d + 2) mX12_cutAll 265 [some (.ref 145), some (.int (nI us.length)), some (.int (nI k2)), some (.int (nI c)), some (.int (nI a)), some (.long (lN (mVa t))), none] [] h2 Q := by
            intro t k2 l2 h2 ht hk1 hk2 hd2 hb2 e145 e147 e148 e149 he2
            have hF2 := hF.app (t := t)
            rw [ht] at hF2
            have hl2 : l2.length = tp.length - k2 := by rw [← hd2, List.length_drop]
            refine ax_aload_n dX12_cutAll_265 rfl ?_
            refine ax_getf dX12_cutAll_266 flX12_30 e145 rfl ?_
            refine ax_iload_n dX12_cutAll_269 rfl ?_
            refine ax_lload dX12_cutAll_270 rfl ?_
            refine ax_last dX12_cutAll_272 e149 (ax_ix_nI (j := us.length) (by omega) (by decide)) ?_
            refine ax_iinc dX12_cutAll_273 rfl (ax_inc 1) ?_
            refine ax_goto 17 dX12_cutAll_276 (by decide +kernel) ?_
            rw [nI_add us.length 1]
            have key := ih k2 l2 (ax_wr h2 149 (eJ 1002 (vp_updL f3 us.length (lN (mVa t))))) (us ++ [t]) (some (.int (nI c))) (some (.int (nI a))) (some (.long (lN (mVa t)))) none _ _ _ (by omega) hk2 hd2 (by rw [List.length_append, List.length_singleton]; omega) (hb2.wr (by unfold cuP; omega)) ((ax_wr_ne (by decide)).trans e145) ((ax_wr_ne (by decide)).trans e147) ((ax_wr_ne (by decide)).trans e148) ax_wr_eq hF2 (by rw [List.append_assoc]; exact he2)
            rw [List.length_append, List.length_singleton] at key
            exact key
          refine ax_iload_n dX12_cutAll_32 rfl ?_
          refine ax_bipush dX12_cutAll_33 (v := nI 10) (by decide) ?_
          refine ax_icmp_eqF 44 dX12_cutAll_35 (by decide) (fun q => hB2 (Or.inl ((nI_eq (by omega) (by omega)).mp q))) ?_
          refine ax_iload_n dX12_cutAll_38 rfl ?_
          refine ax_bipush dX12_cutAll_39 (v := nI 32) (by decide) ?_
          refine ax_icmp_neT 50 dX12_cutAll_41 (by decide) (fun q => hB2 (Or.inr ((nI_eq (by omega) (by omega)).mp q))) ?_
          refine ax_iload_n dX12_cutAll_50 rfl ?_
          refine ax_istore dX12_cutAll_51 (Nat.le_of_ble_eq_true rfl) ?_
          refine ax_lconst dX12_cutAll_53 (v := lN 0) (by decide) ?_
          refine ax_lstore dX12_cutAll_54 (Nat.le_of_ble_eq_true rfl) ?_
          refine ax_aload_n dX12_cutAll_56 rfl ?_
          refine ax_getf dX12_cutAll_57 flX12_27 e145 rfl ?_
          refine ax_iload_n dX12_cutAll_60 rfl ?_
          refine ax_iload_n dX12_cutAll_61 rfl ?_
          refine ax_iast dX12_cutAll_62 e148 (ax_ix_nI (j := us.length) (by omega) (by decide)) ?_
          refine ax_hp (h1 := ax_wr h1 148 (eI 1002 (upd f2 us.length (nI a)))) rfl ?_
          have hb2 : But h (ax_wr h1 148 (eI 1002 (upd f2 us.length (nI a)))) cuP := hb.wr (by unfold cuP; omega)
          have e145 : (ax_wr h1 148 (eI 1002 (upd f2 us.length (nI a)))).2.2 145 = some (eM th (nI 0) (nI tp.length) pt fa co nm rd ask nw os sw bc bm gg) := (ax_wr_ne (by decide)).trans e145
          have e146 : (ax_wr h1 148 (eI 1002 (upd f2 us.length (nI a)))).2.2 146 = some (eI 1000 ft) := (ax_wr_ne (by decide)).trans e146
          have e147 : (ax_wr h1 148 (eI 1002 (upd f2 us.length (nI a)))).2.2 147 = some (eI 1002 f1) := (ax_wr_ne (by decide)).trans e147
          have e148 : (ax_wr h1 148 (eI 1002 (upd f2 us.length (nI a)))).2.2 148 = some (eI 1002 (upd f2 us.length (nI a))) := ax_wr_eq
          have e149 : (ax_wr h1 148 (eI 1002 (upd f2 us.length (nI a)))).2.2 149 = some (eJ 1002 f3) := (ax_wr_ne (by decide)).trans e149
          generalize ax_wr h1 148 (eI 1002 (upd f2 us.length (nI a))) = h2 at hb2 e145 e146 e147 e148 e149 ⊢
          refine ax_iload_n dX12_cutAll_63 rfl ?_
          refine ax_cS dX12_cutAll_64 mmX12_isLetter lkX12_130 mtX12_isLetter rfl rfl (Nat.le_of_ble_eq_true rfl) (Nat.le_of_ble_eq_true rfl) rfl rfl (k_isLetter (d := d + 1) (by omega) ⟨_, rfl, ?_⟩)
          by_cases hL : isL c = true
          · rw [b1_t hL]
            rw [if_pos hL] at he
            refine ax_if_eqF 152 dX12_cutAll_67 (by decide) (by decide) ?_
            have fin : ∀ (w : List Nat), a + w.length ≤ tp.length → w = (c :: r).takeWhile isL → X G (d + 2) mX12_cutAll 129 [some (.ref 145), some (.int (nI us.length)), some (.int (nI (a + w.length))), some (.int (nI c)), some (.int (nI a)), some (.long (lN (wv (w.take 8)))), none] [] h2 Q := by
              intro w hw hwe
              have hs : nI (a + w.length) - nI a = nI w.length := by rw [pk_sub (by omega)]; congr 1; omega
              have hw0 : 0 < w.length := by rw [hwe, List.takeWhile_cons_of_pos hL]; exact Nat.succ_pos _
              rw [← hwe] at he
              have st := store (a, 0, w) (a + w.length) _ (ax_wr h2 147 (eI 1002 (upd f1 us.length (nI (mSo (a, 0, w)))))) rfl (by omega) hw (by rw [← List.drop_drop, hd]) (hb2.wr (by unfold cuP; omega)) ((ax_wr_ne (by decide)).trans e145) ax_wr_eq ((ax_wr_ne (by decide)).trans e148) ((ax_wr_ne (by decide)).trans e149) he
              refine ax_aload_n dX12_cutAll_129 rfl ?_
              refine ax_getf dX12_cutAll_130 flX12_24 e145 rfl ?_
              refine ax_iload_n dX12_cutAll_133 rfl ?_
              refine ax_iload_n dX12_cutAll_134 rfl ?_
              refine ax_iload dX12_cutAll_135 rfl ?_
              refine ax_isub dX12_cutAll_137 ?_
              rw [hs]
              by_cases h8 : 8 < w.length
              · rw [show mSo (a, 0, w) = 4 from if_pos h8] at st
                refine ax_bipush dX12_cutAll_138 (v := nI 8) (by decide) ?_
                refine ax_icmp_leF 147 dX12_cutAll_140 (by decide) (fun q => absurd (nI_lt h8 (by omega)) (Int32.not_lt.mpr q)) ?_
                refine ax_iconst dX12_cutAll_143 (v := nI 4) (by decide) ?_
                refine ax_goto 148 dX12_cutAll_144 (by decide) ?_
                refine ax_iast dX12_cutAll_148 e147 (ax_ix_nI (j := us.length) (by omega) (by decide)) ?_
                refine ax_goto 265 dX12_cutAll_149 (by decide) ?_
                exact st
              · rw [show mSo (a, 0, w) = 1 from if_neg h8] at st
                refine ax_bipush dX12_cutAll_138 (v := nI 8) (by decide) ?_
                refine ax_icmp_leT 147 dX12_cutAll_140 (by decide) (nI_le (by omega) (by omega)) ?_
                refine ax_iconst dX12_cutAll_147 (v := nI 1) (by decide) ?_
                refine ax_iast dX12_cutAll_148 e147 (ax_ix_nI (j := us.length) (by omega) (by decide)) ?_
                refine ax_goto 265 dX12_cutAll_149 (by decide) ?_
                exact st
            have lp : ∀ (l w : List Nat), tp.drop (a + w.length) = l → a + w.length ≤ tp.length → w ++ l.takeWhile isL = (c :: r).takeWhile isL → X G (d + 2) mX12_cutAll 70 [some (.ref 145), some (.int (nI us.length)), some (.int (nI (a + w.length))), some (.int (nI c)), some (.int (nI a)), some (.long (lN (wv (w.take 8)))), none] [] h2 Q := by
              intro l
              induction l with
              | nil =>
                intro w hd hle hwe
                have := dropN hd hle
                rw [List.takeWhile_nil, List.append_nil] at hwe
                refine ax_iload_n dX12_cutAll_70 rfl ?_
                refine ax_aload_n dX12_cutAll_71 rfl ?_
                refine ax_getf dX12_cutAll_72 flX12_134 e145 rfl ?_
                refine ax_icmp_geT 129 dX12_cutAll_75 (by decide) (nI_le (by omega) (by omega)) ?_
                exact fin w hle hwe
              | cons x l ihl =>
                intro w hd hle hwe
                obtain ⟨j1, j2, j3⟩ := dropC hd
                obtain ⟨x1, x2⟩ := okS_lt (hok _ (getD_mem j1))
                rw [j2] at x1 x2
                refine ax_iload_n dX12_cutAll_70 rfl ?_
                refine ax_aload_n dX12_cutAll_71 rfl ?_
                refine ax_getf dX12_cutAll_72 flX12_134 e145 rfl ?_
                refine ax_icmp_geF 129 dX12_cutAll_75 (by decide) (nI_ge j1 (by omega)) ?_
                refine ax_aload_n dX12_cutAll_78 rfl ?_
                refine ax_getf dX12_cutAll_79 flX12_14 e145 rfl ?_
                refine ax_iload_n dX12_cutAll_82 rfl ?_
                refine ax_iald dX12_cutAll_83 e146 (ax_ix_nI (j := a + w.length) (by omega) (by decide)) ?_
                rw [qt _ j1, j2]
                refine ax_cS dX12_cutAll_84 mmX12_isLetter lkX12_130 mtX12_isLetter rfl rfl (Nat.le_of_ble_eq_true rfl) (Nat.le_of_ble_eq_true rfl) rfl rfl (k_isLetter (d := d + 1) (by omega) ⟨_, rfl, ?_⟩)
                by_cases hx : isL x = true
                · rw [b1_t hx]
                  rw [List.takeWhile_cons_of_pos hx] at hwe
                  have hw1 : (w ++ [x]).length = w.length + 1 := by rw [List.length_append]; rfl
                  have key := ihl (w ++ [x]) (by rw [hw1]; exact j3) (by rw [hw1]; omega) (by rw [List.append_assoc]; exact hwe)
                  rw [hw1, wv_app] at key
                  have hs : nI (a + w.length) - nI a = nI w.length := by rw [pk_sub (by omega)]; congr 1; omega
                  refine ax_if_eqF 129 dX12_cutAll_87 (by decide) (by decide) ?_
                  refine ax_iload_n dX12_cutAll_90 rfl ?_
                  refine ax_iload dX12_cutAll_91 rfl ?_
                  refine ax_isub dX12_cutAll_93 ?_
                  rw [hs]
                  by_cases h8 : w.length < 8
                  · rw [if_pos h8] at key
                    refine ax_bipush dX12_cutAll_94 (v := nI 8) (by decide) ?_
                    refine ax_icmp_geF 119 dX12_cutAll_96 (by decide) (nI_ge h8 (by omega)) ?_
                    refine ax_ldc2 dX12_cutAll_99 cnX12_137 ?_
                    refine ax_lload dX12_cutAll_102 rfl ?_
                    refine ax_lmul dX12_cutAll_104 ?_
                    refine ax_aload_n dX12_cutAll_105 rfl ?_
                    refine ax_getf dX12_cutAll_106 flX12_14 e145 rfl ?_
                    refine ax_iload_n dX12_cutAll_109 rfl ?_
                    refine ax_iald dX12_cutAll_110 e146 (ax_ix_nI (j := a + w.length) (by omega) (by decide)) ?_
                    rw [qt _ j1, j2]
                    refine ax_cS dX12_cutAll_111 mmX12_rank lkX12_139 mtX12_rank rfl rfl (Nat.le_of_ble_eq_true rfl) (Nat.le_of_ble_eq_true rfl) rfl rfl (k_rank (d := d) (by omega) hx ⟨_, rfl, ?_⟩)
                    refine ax_i2l dX12_cutAll_114 ?_
                    refine ax_ladd dX12_cutAll_115 ?_
                    rw [show (37 : Int64) = lN 37 from by decide, nI_l (by omega), lN_mul 37 (wv (w.take 8)), lN_add (37 * wv (w.take 8)) (x - 96)]
                    refine ax_goto 121 dX12_cutAll_116 (by decide) ?_
                    refine ax_lstore dX12_cutAll_121 (Nat.le_of_ble_eq_true rfl) ?_
                    refine ax_iinc dX12_cutAll_123 rfl (ax_inc 1) ?_
                    refine ax_goto 70 dX12_cutAll_126 (by decide) ?_
                    rw [nI_add (a + w.length) 1]
                    exact key
                  · rw [if_neg h8] at key
                    refine ax_bipush dX12_cutAll_94 (v := nI 8) (by decide) ?_
                    refine ax_icmp_geT 119 dX12_cutAll_96 (by decide) (nI_le (by omega) (by omega)) ?_
                    refine ax_lload dX12_cutAll_119 rfl ?_
                    refine ax_lstore dX12_cutAll_121 (Nat.le_of_ble_eq_true rfl) ?_
                    refine ax_iinc dX12_cutAll_123 rfl (ax_inc 1) ?_
                    refine ax_goto 70 dX12_cutAll_126 (by decide) ?_
                    rw [nI_add (a + w.length) 1]
                    exact key
                · rw [b1_f hx]
                  rw [List.takeWhile_cons_of_neg hx, List.append_nil] at hwe
                  refine ax_if_eqT 129 dX12_cutAll_87 (by decide) rfl ?_
                  exact fin w hle hwe
            exact lp (c :: r) [] hd ha rfl
          · rw [b1_f hL]
            rw [if_neg hL] at he
            refine ax_if_eqT 152 dX12_cutAll_67 (by decide) rfl ?_
            refine ax_iload_n dX12_cutAll_152 rfl ?_
            refine ax_cS dX12_cutAll_153 mmX12_isDigit lkX12_143 mtX12_isDigit rfl rfl (Nat.le_of_ble_eq_true rfl) (Nat.le_of_ble_eq_true rfl) rfl rfl (k_isDigit (d := d + 1) (by omega) ⟨_, rfl, ?_⟩)
            by_cases hD : isD c = true
            · rw [b1_t hD]
              rw [if_pos hD] at he
              refine ax_if_eqF 240 dX12_cutAll_156 (by decide) (by decide) ?_
              have fin : ∀ (w : List Nat), a + w.length ≤ tp.length → w = (c :: r).takeWhile isD → X G (d + 2) mX12_cutAll 218 [some (.ref 145), some (.int (nI us.length)), some (.int (nI (a + w.length))), some (.int (nI c)), some (.int (nI a)), some (.long (lN (nv (w.take 4)))), none] [] h2 Q := by
                intro w hw hwe
                have hs : nI (a + w.length) - nI a = nI w.length := by rw [pk_sub (by omega)]; congr 1; omega
                have hw0 : 0 < w.length := by rw [hwe, List.takeWhile_cons_of_pos hD]; exact Nat.succ_pos _
                rw [← hwe] at he
                have st := store (a, 1, w) (a + w.length) _ (ax_wr h2 147 (eI 1002 (upd f1 us.length (nI (mSo (a, 1, w)))))) rfl (by omega) hw (by rw [← List.drop_drop, hd]) (hb2.wr (by unfold cuP; omega)) ((ax_wr_ne (by decide)).trans e145) ax_wr_eq ((ax_wr_ne (by decide)).trans e148) ((ax_wr_ne (by decide)).trans e149) he
                refine ax_aload_n dX12_cutAll_218 rfl ?_
                refine ax_getf dX12_cutAll_219 flX12_24 e145 rfl ?_
                refine ax_iload_n dX12_cutAll_222 rfl ?_
                refine ax_iload_n dX12_cutAll_223 rfl ?_
                refine ax_iload dX12_cutAll_224 rfl ?_
                refine ax_isub dX12_cutAll_226 ?_
                rw [hs]
                by_cases h8 : 4 < w.length
                · rw [show mSo (a, 1, w) = 4 from if_pos h8] at st
                  refine ax_iconst dX12_cutAll_227 (v := nI 4) (by decide) ?_
                  refine ax_icmp_leF 235 dX12_cutAll_228 (by decide +kernel) (fun q => absurd (nI_lt h8 (by omega)) (Int32.not_lt.mpr q)) ?_
                  refine ax_iconst dX12_cutAll_231 (v := nI 4) (by decide) ?_
                  refine ax_goto 236 dX12_cutAll_232 (by decide +kernel) ?_
                  refine ax_iast dX12_cutAll_236 e147 (ax_ix_nI (j := us.length) (by omega) (by decide)) ?_
                  refine ax_goto 265 dX12_cutAll_237 (by decide +kernel) ?_
                  exact st
                · rw [show mSo (a, 1, w) = 2 from if_neg h8] at st
                  refine ax_iconst dX12_cutAll_227 (v := nI 4) (by decide) ?_
                  refine ax_icmp_leT 235 dX12_cutAll_228 (by decide +kernel) (nI_le (by omega) (by omega)) ?_
                  refine ax_iconst dX12_cutAll_235 (v := nI 2) (by decide) ?_
                  refine ax_iast dX12_cutAll_236 e147 (ax_ix_nI (j := us.length) (by omega) (by decide)) ?_
                  refine ax_goto 265 dX12_cutAll_237 (by decide +kernel) ?_
                  exact st
              have lp : ∀ (l w : List Nat), tp.drop (a + w.length) = l → a + w.length ≤ tp.length → w ++ l.takeWhile isD = (c :: r).takeWhile isD → X G (d + 2) mX12_cutAll 159 [some (.ref 145), some (.int (nI us.length)), some (.int (nI (a + w.length))), some (.int (nI c)), some (.int (nI a)), some (.long (lN (nv (w.take 4)))), none] [] h2 Q := by
                intro l
                induction l with
                | nil =>
                  intro w hd hle hwe
                  have := dropN hd hle
                  rw [List.takeWhile_nil, List.append_nil] at hwe
                  refine ax_iload_n dX12_cutAll_159 rfl ?_
                  refine ax_aload_n dX12_cutAll_160 rfl ?_
                  refine ax_getf dX12_cutAll_161 flX12_134 e145 rfl ?_
                  refine ax_icmp_geT 218 dX12_cutAll_164 (by decide) (nI_le (by omega) (by omega)) ?_
                  exact fin w hle hwe
                | cons x l ihl =>
                  intro w hd hle hwe
                  obtain ⟨j1, j2, j3⟩ := dropC hd
                  obtain ⟨x1, x2⟩ := okS_lt (hok _ (getD_mem j1))
                  rw [j2] at x1 x2
                  refine ax_iload_n dX12_cutAll_159 rfl ?_
                  refine ax_aload_n dX12_cutAll_160 rfl ?_
                  refine ax_getf dX12_cutAll_161 flX12_134 e145 rfl ?_
                  refine ax_icmp_geF 218 dX12_cutAll_164 (by decide) (nI_ge j1 (by omega)) ?_
                  refine ax_aload_n dX12_cutAll_167 rfl ?_
                  refine ax_getf dX12_cutAll_168 flX12_14 e145 rfl ?_
                  refine ax_iload_n dX12_cutAll_171 rfl ?_
                  refine ax_iald dX12_cutAll_172 e146 (ax_ix_nI (j := a + w.length) (by omega) (by decide)) ?_
                  rw [qt _ j1, j2]
                  refine ax_cS dX12_cutAll_173 mmX12_isDigit lkX12_143 mtX12_isDigit rfl rfl (Nat.le_of_ble_eq_true rfl) (Nat.le_of_ble_eq_true rfl) rfl rfl (k_isDigit (d := d + 1) (by omega) ⟨_, rfl, ?_⟩)
                  by_cases hx : isD x = true
                  · rw [b1_t hx]
                    rw [List.takeWhile_cons_of_pos hx] at hwe
                    have hx2 := of_decide_eq_true hx
                    have hw1 : (w ++ [x]).length = w.length + 1 := by rw [List.length_append]; rfl
                    have key := ihl (w ++ [x]) (by rw [hw1]; exact j3) (by rw [hw1]; omega) (by rw [List.append_assoc]; exact hwe)
                    rw [hw1, nv_app] at key
                    have hs : nI (a + w.length) - nI a = nI w.length := by rw [pk_sub (by omega)]; congr 1; omega
                    refine ax_if_eqF 218 dX12_cutAll_176 (by decide) (by decide) ?_
                    refine ax_iload_n dX12_cutAll_179 rfl ?_
                    refine ax_iload dX12_cutAll_180 rfl ?_
                    refine ax_isub dX12_cutAll_182 ?_
                    rw [hs]
                    by_cases h8 : w.length < 4
                    · rw [if_pos h8] at key
                      refine ax_iconst dX12_cutAll_183 (v := nI 4) (by decide) ?_
                      refine ax_icmp_geF 208 dX12_cutAll_184 (by decide) (nI_ge h8 (by omega)) ?_
                      refine ax_ldc2 dX12_cutAll_187 cnX12_146 ?_
                      refine ax_lload dX12_cutAll_190 rfl ?_
                      refine ax_lmul dX12_cutAll_192 ?_
                      refine ax_aload_n dX12_cutAll_193 rfl ?_
                      refine ax_getf dX12_cutAll_194 flX12_14 e145 rfl ?_
                      refine ax_iload_n dX12_cutAll_197 rfl ?_
                      refine ax_iald dX12_cutAll_198 e146 (ax_ix_nI (j := a + w.length) (by omega) (by decide)) ?_
                      rw [qt _ j1, j2]
                      refine ax_i2l dX12_cutAll_199 ?_
                      refine ax_ladd dX12_cutAll_200 ?_
                      refine ax_ldc2 dX12_cutAll_201 cnX12_148 ?_
                      rw [show (10 : Int64) = lN 10 from by decide, show (48 : Int64) = lN 48 from by decide, nI_l (by omega), lN_mul 10 (nv (w.take 4)), lN_add (10 * nv (w.take 4)) x]
                      refine ax_lsub dX12_cutAll_204 ?_
                      rw [lN_sub (a := 10 * nv (w.take 4) + x) (b := 48) (by omega)]
                      refine ax_goto 210 dX12_cutAll_205 (by decide +kernel) ?_
                      refine ax_lstore dX12_cutAll_210 (Nat.le_of_ble_eq_true rfl) ?_
                      refine ax_iinc dX12_cutAll_212 rfl (ax_inc 1) ?_
                      refine ax_goto 159 dX12_cutAll_215 (by decide +kernel) ?_
                      rw [nI_add (a + w.length) 1]
                      exact key
                    · rw [if_neg h8] at key
                      refine ax_iconst dX12_cutAll_183 (v := nI 4) (by decide) ?_
                      refine ax_icmp_geT 208 dX12_cutAll_184 (by decide) (nI_le (by omega) (by omega)) ?_
                      refine ax_lload dX12_cutAll_208 rfl ?_
                      refine ax_lstore dX12_cutAll_210 (Nat.le_of_ble_eq_true rfl) ?_
                      refine ax_iinc dX12_cutAll_212 rfl (ax_inc 1) ?_
                      refine ax_goto 159 dX12_cutAll_215 (by decide +kernel) ?_
                      rw [nI_add (a + w.length) 1]
                      exact key
                  · rw [b1_f hx]
                    rw [List.takeWhile_cons_of_neg hx, List.append_nil] at hwe
                    refine ax_if_eqT 218 dX12_cutAll_176 (by decide) rfl ?_
                    exact fin w hle hwe
              exact lp (c :: r) [] hd ha rfl
            · rw [b1_f hD]
              rw [if_neg hD] at he
              have st := store (a, 2, [c]) (a + 1) r (ax_wr h2 147 (eI 1002 (upd f1 us.length (nI (mSo (a, 2, [c])))))) rfl (by omega) (by omega) i3 (hb2.wr (by unfold cuP; omega)) ((ax_wr_ne (by decide)).trans e145) ax_wr_eq ((ax_wr_ne (by decide)).trans e148) ((ax_wr_ne (by decide)).trans e149) he
              rw [show mVa (a, 2, [c]) = c from rfl] at st
              refine ax_if_eqT 240 dX12_cutAll_156 (by decide) rfl ?_
              refine ax_iload_n dX12_cutAll_240 rfl ?_
              refine ax_i2l dX12_cutAll_241 ?_
              rw [nI_l (by omega)]
              refine ax_lstore dX12_cutAll_242 (Nat.le_of_ble_eq_true rfl) ?_
              refine ax_aload_n dX12_cutAll_244 rfl ?_
              refine ax_getf dX12_cutAll_245 flX12_24 e145 rfl ?_
              refine ax_iload_n dX12_cutAll_248 rfl ?_
              refine ax_iload_n dX12_cutAll_249 rfl ?_
              refine ax_cS dX12_cutAll_250 mmX12_isSignOf lkX12_150 mtX12_isSignOf rfl rfl (Nat.le_of_ble_eq_true rfl) (Nat.le_of_ble_eq_true rfl) rfl rfl (k_isSignOf (d := d + 1) (by omega) ⟨_, rfl, ?_⟩)
              by_cases hg : isG c = true
              · rw [b1_t hg]
                rw [show mSo (a, 2, [c]) = 3 from if_pos hg] at st
                refine ax_if_eqF 260 dX12_cutAll_253 (by decide +kernel) (by decide) ?_
                refine ax_iconst dX12_cutAll_256 (v := nI 3) (by decide) ?_
                refine ax_goto 261 dX12_cutAll_257 (by decide +kernel) ?_
                refine ax_iast dX12_cutAll_261 e147 (ax_ix_nI (j := us.length) (by omega) (by decide)) ?_
                refine ax_iinc dX12_cutAll_262 rfl (ax_inc 1) ?_
                rw [nI_add a 1]
                exact st
              · rw [b1_f hg]
                rw [show mSo (a, 2, [c]) = 4 from if_neg hg] at st
                refine ax_if_eqT 260 dX12_cutAll_253 (by decide +kernel) rfl ?_
                refine ax_iconst dX12_cutAll_260 (v := nI 4) (by decide) ?_
                refine ax_iast dX12_cutAll_261 e147 (ax_ix_nI (j := us.length) (by omega) (by decide)) ?_
                refine ax_iinc dX12_cutAll_262 rfl (ax_inc 1) ?_
                rw [nI_add a 1]
                exact st
  refine ax_aload_n dX12_cutAll_0 rfl ?_
  refine ax_aload_n dX12_cutAll_1 rfl ?_
  refine ax_getf dX12_cutAll_2 flX12_11 e145 rfl ?_
  refine ax_putf dX12_cutAll_5 flX12_134 e145 (Nat.le_of_ble_eq_true rfl) (fun _ => ⟨rfl, rfl⟩) ?_
  refine ax_aload_n dX12_cutAll_8 rfl ?_
  refine ax_iconst dX12_cutAll_9 (v := nI 0) (by decide) ?_
  refine ax_putf dX12_cutAll_10 flX12_11 ax_wr_eq (Nat.le_of_ble_eq_true rfl) (fun _ => ⟨rfl, rfl⟩) ?_
  rw [ax_wr_wr]
  refine ax_iconst dX12_cutAll_13 (v := nI 0) (by decide) ?_
  refine ax_istore_n dX12_cutAll_14 (Nat.le_of_ble_eq_true rfl) ?_
  refine ax_iconst dX12_cutAll_15 (v := nI 0) (by decide) ?_
  refine ax_istore_n dX12_cutAll_16 (Nat.le_of_ble_eq_true rfl) ?_
  exact loop 1000 0 tp _ [] _ _ _ _ g1 g2 g3 h1000 (Nat.zero_le _) rfl (Nat.le_refl _) (But.rf.wr (by unfold cuP; omega)) ax_wr_eq ((ax_wr_ne (by decide)).trans e147) ((ax_wr_ne (by decide)).trans e148) ((ax_wr_ne (by decide)).trans e149) (fun j hj => absurd hj (Nat.not_lt_zero _)) hZ
end MCU2
