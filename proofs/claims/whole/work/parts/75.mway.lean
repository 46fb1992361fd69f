/-! ===== the model: the search for a way ===== -/
section MW
variable {G : ax_G} {d : Nat} {h : ax_H} {Q : ax_O → ax_H → Prop} {N : Nt} {σ : Sd}
variable {th ta si pt fa co nm rd ask nw os sw bc bm : Int32} {gg : Int64} {F S O A Cf : Nat → Int32}
theorem bt_shr : ∀ m : Nat, m < 128 → ∀ o : Nat, o < 7 → (nI m >>> (nI o &&& 31)) &&& nI 1 = nI (if m.testBit o then 1 else 0) := by decide +kernel
theorem bt_or : ∀ m : Nat, m < 128 → ∀ o : Nat, o < 7 → nI m ||| nI 1 <<< (nI o &&& 31) = nI (m ||| 1 <<< o) := by decide +kernel
theorem bt_1 : ∀ o : Nat, o < 7 → nI 1 <<< (nI o &&& 31) = nI (1 <<< o) := by decide +kernel
def goP : Nat → Prop := fun j => j = 145 ∨ j = 162 ∨ j = 163
/-- the best so far, as the model keeps it -/
def GI (h : ax_H) (th ta si pt fa co nm rd ask nw os sw : Int32) (gg : Int64) (s : Nat × List Nat) : Prop :=
  h.2.2 145 = some (eM th ta si pt fa co nm rd ask nw os sw (nI (s.1 / 16)) (nI s.2.length) gg) ∧ s.1 % 16 = s.2.length ∧ s.1 < 2 ^ 31 ∧ s.2.length ≤ 7 ∧ ∃ Bf, h.2.2 163 = some (eI 10 Bf) ∧ ∀ j, j < s.2.length → Bf j = nI (s.2.getD j 0)
def RwI (h : ax_H) (row : List Nat) : Prop := ∃ Rf, h.2.2 162 = some (eI 10 Rf) ∧ ∀ j, j < row.length → Rf j = nI (row.getD j 0)
theorem gdS_7 {p : Nat → Nat} {w : Nat → Bool} {t c : Nat} (hc : ∀ r, r < nR N → w r = false → p r ≤ c) : ∀ (f a met : Nat) (row : List Nat) (k : Nat) (s : Nat × List Nat), gdS N p w t f a met row k s = s ∨ (gdS N p w t f a met row k s).1 ≤ k + c * f := fun f a met row k s => gdS_up hc f a met row k s
theorem k_goesOn {ld t : Nat} (ht : t < 7) (hN : nOK N) (hF : FnB F N) (hS : Sb S N σ) (hh : ∀ r, r < nR N → σ 1 r < 100000) (hC : ∀ r, r < nR N → Cf r = nI (price N σ r ld)) :
    ∀ (f a met : Nat) (row : List Nat) (k : Nat) (s : Nat × List Nat) (h : ax_H) (Q : ax_O → ax_H → Prop), a < 7 → met < 128 → f = cn met + 1 → row.length + f ≤ 7 → k % 16 = row.length → k ≤ 159985 * row.length → h.2.2 151 = some (eI 168 F) → h.2.2 159 = some (eI 12840 S) → h.2.2 161 = some (eI 10 Cf) → GI h th ta si pt fa co nm rd ask nw os sw gg s → RwI h row →
      (∀ h', But h h' goP → GI h' th ta si pt fa co nm rd ask nw os sw gg (gdS N (pv N σ ld) (fun r => decide (1000 ≤ σ 1 r)) t f a met row k s) → RwI h' row → Q (.inl none) h') → X G (d + f + 1) mX12_goesOn 0 (ax_in 8 [.ref 145, .int (nI a), .int (nI t), .int (nI met), .int (nI row.length), .int (nI (k / 16))]) [] h Q := by
  obtain ⟨-, -, f2, -, -, fr⟩ := id hF
  obtain ⟨-, s1, -⟩ := id hS
  have hR10 := hN.2.2.1
  have hPl := hN.2.1
  have hrd := hN.2.2.2.2.2.1
  intro f
  induction f with
  | zero => intro a met row k s h Q ha hm hf; omega
  | succ f ih =>
    intro a met row k s h Q ha hm hf hrf hk16 hkle e151 e159 e161 hG hRw hq
    obtain ⟨e145, g1, g2, g3, Bf, e163, gB⟩ := id hG
    obtain ⟨Rf, e162, gR⟩ := id hRw
    unfold gdS at hq
    by_cases hp : s.1 ≤ k
    · rw [if_pos hp] at hq
      have done : X G (d + (f + 1) + 1) mX12_goesOn 27 [some (.ref 145), some (.int (nI a)), some (.int (nI t)), some (.int (nI met)), some (.int (nI row.length)), some (.int (nI (k / 16))), none, none] [] h Q := ax_return dX12_goesOn_27 rfl (hq h But.rf hG hRw)
      by_cases hc : s.1 / 16 < k / 16
      · refine ax_iload dX12_goesOn_0 rfl ?_
        refine ax_aload_n dX12_goesOn_2 rfl ?_
        refine ax_getf dX12_goesOn_3 flX12_301 e145 rfl ?_
        refine ax_icmp_gtT 27 dX12_goesOn_6 (by decide) (nI_lt hc (by omega)) ?_
        exact done
      · refine ax_iload dX12_goesOn_0 rfl ?_
        refine ax_aload_n dX12_goesOn_2 rfl ?_
        refine ax_getf dX12_goesOn_3 flX12_301 e145 rfl ?_
        refine ax_icmp_gtF 27 dX12_goesOn_6 (by decide) (nI_nlt (by omega) (by omega)) ?_
        refine ax_iload dX12_goesOn_9 rfl ?_
        refine ax_aload_n dX12_goesOn_11 rfl ?_
        refine ax_getf dX12_goesOn_12 flX12_301 e145 rfl ?_
        refine ax_icmp_neF 28 dX12_goesOn_15 (by decide) (by rw [show k / 16 = s.1 / 16 by omega]) ?_
        refine ax_iload dX12_goesOn_18 rfl ?_
        refine ax_aload_n dX12_goesOn_20 rfl ?_
        refine ax_getf dX12_goesOn_21 flX12_304 e145 rfl ?_
        refine ax_icmp_ltF 28 dX12_goesOn_24 (by decide) (nI_nlt (by omega) (by omega)) ?_
        exact done
    · rw [if_neg hp] at hq
      have at28 : X G (d + (f + 1) + 1) mX12_goesOn 28 [some (.ref 145), some (.int (nI a)), some (.int (nI t)), some (.int (nI met)), some (.int (nI row.length)), some (.int (nI (k / 16))), none, none] [] h Q := by
        by_cases hat : a = t
        · rw [if_pos hat] at hq
          have loop : ∀ (m i : Nat) (Bf : Nat → Int32) (h1 : ax_H), i + m = row.length → But h h1 goP → h1.2.2 145 = some (eM th ta si pt fa co nm rd ask nw os sw (nI (k / 16)) (nI row.length) gg) → h1.2.2 162 = some (eI 10 Rf) → h1.2.2 163 = some (eI 10 Bf) → (∀ j, j < i → Bf j = nI (row.getD j 0)) → X G (d + (f + 1) + 1) mX12_goesOn 48 [some (.ref 145), some (.int (nI a)), some (.int (nI t)), some (.int (nI met)), some (.int (nI row.length)), some (.int (nI (k / 16))), some (.int (nI i)), none] [] h1 Q := by
            intro m
            induction m with
            | zero =>
              intro i Bf h1 hi hb e145 e162 e163 hB
              obtain rfl : i = row.length := by omega
              refine ax_iload dX12_goesOn_48 rfl ?_
              refine ax_iload dX12_goesOn_50 rfl ?_
              refine ax_icmp_geT 75 dX12_goesOn_52 (by decide) (Int32.le_refl _) ?_
              exact ax_return dX12_goesOn_75 rfl (hq h1 hb ⟨e145, hk16, by show k < _; omega, by show row.length ≤ 7; omega, Bf, e163, hB⟩ ⟨Rf, e162, gR⟩)
            | succ m ih2 =>
              intro i Bf h1 hi hb e145 e162 e163 hB
              refine ax_iload dX12_goesOn_48 rfl ?_
              refine ax_iload dX12_goesOn_50 rfl ?_
              refine ax_icmp_geF 75 dX12_goesOn_52 (by decide) (nI_ge (by omega) (by omega)) ?_
              refine ax_aload_n dX12_goesOn_55 rfl ?_
              refine ax_getf dX12_goesOn_56 flX12_118 e145 rfl ?_
              refine ax_iload dX12_goesOn_59 rfl ?_
              refine ax_aload_n dX12_goesOn_61 rfl ?_
              refine ax_getf dX12_goesOn_62 flX12_115 e145 rfl ?_
              refine ax_iload dX12_goesOn_65 rfl ?_
              refine ax_iald dX12_goesOn_67 e162 (ax_ix_nI (by omega) (by decide)) ?_
              rw [gR i (by omega)]
              refine ax_iast dX12_goesOn_68 e163 (ax_ix_nI (by omega) (by decide)) ?_
              refine ax_iinc dX12_goesOn_69 rfl (ax_inc 1) ?_
              refine ax_goto 48 dX12_goesOn_72 (by decide) ?_
              rw [nI_add]
              refine ih2 (i + 1) _ _ (by omega) (hb.wr (Or.inr (Or.inr rfl))) ((ax_wr_ne (by decide)).trans e145) ((ax_wr_ne (by decide)).trans e162) ax_wr_eq (fun j hj => ?_)
              by_cases hji : j = i
              · rw [hji]; exact pk_us
              · rw [pk_un hji]; exact hB j (by omega)
          refine ax_iload_n dX12_goesOn_28 rfl ?_
          refine ax_iload_n dX12_goesOn_29 rfl ?_
          refine ax_icmp_neF 76 dX12_goesOn_30 (by decide) (by rw [hat]) ?_
          refine ax_aload_n dX12_goesOn_33 rfl ?_
          refine ax_iload dX12_goesOn_34 rfl ?_
          refine ax_putf dX12_goesOn_36 flX12_301 e145 (Nat.le_of_ble_eq_true rfl) (fun _ => ⟨rfl, rfl⟩) ?_
          refine ax_aload_n dX12_goesOn_39 rfl ?_
          refine ax_iload dX12_goesOn_40 rfl ?_
          refine ax_putf dX12_goesOn_42 flX12_304 ax_wr_eq (Nat.le_of_ble_eq_true rfl) (fun _ => ⟨rfl, rfl⟩) ?_
          rw [ax_wr_wr]
          refine ax_iconst dX12_goesOn_45 (v := nI 0) (by decide) ?_
          refine ax_istore dX12_goesOn_46 (Nat.le_of_ble_eq_true rfl) ?_
          refine ax_hp (h1 := ax_wr h 145 (eM th ta si pt fa co nm rd ask nw os sw (nI (k / 16)) (nI row.length) gg)) rfl ?_
          exact loop row.length 0 Bf _ (by omega) (But.rf.wr (Or.inl rfl)) ax_wr_eq ((ax_wr_ne (by decide)).trans e162) ((ax_wr_ne (by decide)).trans e163) (fun j hj => absurd hj (Nat.not_lt_zero _))
        · rw [if_neg hat] at hq
          generalize hZ : gdR N (fun r => decide (1000 ≤ σ 1 r)) a met (fun r o s' => gdS N (pv N σ ld) (fun r => decide (1000 ≤ σ 1 r)) t f o (met ||| 1 <<< o) (row ++ [r]) (k + pv N σ ld r) s') (nR N) s = Z at hq
          have loop : ∀ (m i : Nat) (o7 : Option Value) (h1 : ax_H), i + m = nR N → But h h1 goP → GI h1 th ta si pt fa co nm rd ask nw os sw gg (gdR N (fun r => decide (1000 ≤ σ 1 r)) a met (fun r o s' => gdS N (pv N σ ld) (fun r => decide (1000 ≤ σ 1 r)) t f o (met ||| 1 <<< o) (row ++ [r]) (k + pv N σ ld r) s') i s) → RwI h1 row → X G (d + (f + 1) + 1) mX12_goesOn 79 [some (.ref 145), some (.int (nI a)), some (.int (nI t)), some (.int (nI met)), some (.int (nI row.length)), some (.int (nI (k / 16))), some (.int (nI i)), o7] [] h1 Q := by
            intro m
            induction m with
            | zero =>
              intro i o7 h1 hi hb hG1 hR1
              obtain rfl : i = nR N := by omega
              rw [hZ] at hG1
              have e145 := hG1.1
              have e151 := (hb.2.2 151 (by unfold goP; omega)).trans e151
              refine ax_iload dX12_goesOn_79 rfl ?_
              refine ax_aload_n dX12_goesOn_81 rfl ?_
              refine ax_cV dX12_goesOn_82 mmX12_roads lkX12_194 miX12_roads msX12_roads (ax_recv_of e145 rfl) rfl rfl (Nat.le_of_ble_eq_true rfl) (Nat.le_of_ble_eq_true rfl) rfl rfl (k_roads e145 e151 ⟨_, rfl, ?_⟩)
              rw [f2]
              refine ax_icmp_geT 198 dX12_goesOn_85 (by decide) (Int32.le_refl _) ?_
              exact ax_return dX12_goesOn_198 rfl (hq h1 hb hG1 hR1)
            | succ m ih2 =>
              intro i o7 h1 hi hb hG1 hR1
              have hir : i < nR N := by omega
              have e145 := hG1.1
              have e151 := (hb.2.2 151 (by unfold goP; omega)).trans e151
              have e159 := (hb.2.2 159 (by unfold goP; omega)).trans e159
              have e161 := (hb.2.2 161 (by unfold goP; omega)).trans e161
              obtain ⟨fr0, fr1, fr2⟩ := fr i hir
              obtain ⟨hu, hv, huv, -⟩ := hrd i hir
              have stepZ : gdR N (fun r => decide (1000 ≤ σ 1 r)) a met (fun r o s' => gdS N (pv N σ ld) (fun r => decide (1000 ≤ σ 1 r)) t f o (met ||| 1 <<< o) (row ++ [r]) (k + pv N σ ld r) s') (i + 1) s = (match oth N i a with
                | none => gdR N (fun r => decide (1000 ≤ σ 1 r)) a met (fun r o s' => gdS N (pv N σ ld) (fun r => decide (1000 ≤ σ 1 r)) t f o (met ||| 1 <<< o) (row ++ [r]) (k + pv N σ ld r) s') i s
                | some o => if decide (1000 ≤ σ 1 i) = false ∧ met.testBit o = false then gdS N (pv N σ ld) (fun r => decide (1000 ≤ σ 1 r)) t f o (met ||| 1 <<< o) (row ++ [i]) (k + pv N σ ld i) (gdR N (fun r => decide (1000 ≤ σ 1 r)) a met (fun r o s' => gdS N (pv N σ ld) (fun r => decide (1000 ≤ σ 1 r)) t f o (met ||| 1 <<< o) (row ++ [r]) (k + pv N σ ld r) s') i s) else gdR N (fun r => decide (1000 ≤ σ 1 r)) a met (fun r o s' => gdS N (pv N σ ld) (fun r => decide (1000 ≤ σ 1 r)) t f o (met ||| 1 <<< o) (row ++ [r]) (k + pv N σ ld r) s') i s) := rfl
              have ih3 := fun o7 h1 => ih2 (i + 1) o7 h1 (by omega)
              generalize gdR N (fun r => decide (1000 ≤ σ 1 r)) a met (fun r o s' => gdS N (pv N σ ld) (fun r => decide (1000 ≤ σ 1 r)) t f o (met ||| 1 <<< o) (row ++ [r]) (k + pv N σ ld r) s') (i + 1) s = z1 at stepZ ih3
              generalize gdR N (fun r => decide (1000 ≤ σ 1 r)) a met (fun r o s' => gdS N (pv N σ ld) (fun r => decide (1000 ≤ σ 1 r)) t f o (met ||| 1 <<< o) (row ++ [r]) (k + pv N σ ld r) s') i s = z0 at stepZ hG1
              have skip : z1 = z0 → ∀ x7 : Int32, X G (d + (f + 1) + 1) mX12_goesOn 192 [some (.ref 145), some (.int (nI a)), some (.int (nI t)), some (.int (nI met)), some (.int (nI row.length)), some (.int (nI (k / 16))), some (.int (nI i)), some (.int x7)] [] h1 Q := by
                intro hz x7
                refine ax_iinc dX12_goesOn_192 rfl (ax_inc 1) ?_
                refine ax_goto 79 dX12_goesOn_195 (by decide) ?_
                rw [nI_add i 1]
                exact ih3 _ h1 hb (by rw [hz]; exact hG1) hR1
              have at131 : ∀ ox : Option Nat, oth N i a = ox → X G (d + (f + 1) + 1) mX12_goesOn 131 [some (.ref 145), some (.int (nI a)), some (.int (nI t)), some (.int (nI met)), some (.int (nI row.length)), some (.int (nI (k / 16))), some (.int (nI i)), o7] [.int (on ox)] h1 Q := by
                intro ox hox
                rw [hox] at stepZ
                cases ox with
                | none =>
                  refine ax_istore dX12_goesOn_131 (Nat.le_of_ble_eq_true rfl) ?_
                  refine ax_iload dX12_goesOn_133 rfl ?_
                  refine ax_if_ltT 192 dX12_goesOn_135 (by decide) (show (-1 : Int32) < 0 by decide) ?_
                  exact skip stepZ _
                | some o =>
                  dsimp only at stepZ
                  have ho7 : o < 7 := oth_lt hN hir hox
                  refine ax_istore dX12_goesOn_131 (Nat.le_of_ble_eq_true rfl) ?_
                  refine ax_iload dX12_goesOn_133 rfl ?_
                  refine ax_if_ltF 192 dX12_goesOn_135 (by decide) (show ¬ nI o < 0 from nI_pos (by omega)) ?_
                  refine ax_aload_n dX12_goesOn_138 rfl ?_
                  refine ax_iload dX12_goesOn_139 rfl ?_
                  refine ax_cV dX12_goesOn_141 mmX12_isWorn lkX12_311 miX12_isWorn msX12_isWorn (ax_recv_of e145 rfl) rfl rfl (Nat.le_of_ble_eq_true rfl) (Nat.le_of_ble_eq_true rfl) rfl rfl (k_isWorn (by omega) e145 e159 ⟨_, rfl, ?_⟩)
                  rw [s1 i hir]
                  by_cases hwn : 1000 ≤ σ 1 i
                  · rw [b1_t (nI_nlt hwn (by have := hh i hir; omega))]
                    refine ax_if_neT 192 dX12_goesOn_144 (by decide) (by decide) ?_
                    refine skip ?_ _
                    rw [stepZ, if_neg (fun q => by rw [decide_eq_true hwn] at q; cases q.1)]
                  · rw [b1_f (fun q => q (nI_lt (by omega) (by omega)))]
                    refine ax_if_neF 192 dX12_goesOn_144 (by decide) rfl ?_
                    refine ax_iload_n dX12_goesOn_147 rfl ?_
                    refine ax_iload dX12_goesOn_148 rfl ?_
                    refine ax_ishr dX12_goesOn_150 ?_
                    refine ax_iconst dX12_goesOn_151 (v := nI 1) (by decide) ?_
                    refine ax_iand dX12_goesOn_152 ?_
                    have hon : on (some o) = nI o := rfl
                    rw [hon, bt_shr met hm o ho7]
                    by_cases hbt : met.testBit o = true
                    · rw [if_pos hbt]
                      refine ax_if_neT 192 dX12_goesOn_153 (by decide) (by decide) ?_
                      refine skip ?_ _
                      rw [stepZ, if_neg (fun q => by rw [hbt] at q; cases q.2)]
                    · rw [if_neg hbt]
                      have hbf : met.testBit o = false := by simpa using hbt
                      have hwf : decide (1000 ≤ σ 1 i) = false := decide_eq_false hwn
                      rw [if_pos ⟨hwf, hbf⟩] at stepZ
                      obtain ⟨hcn, hm2⟩ := cn_or met hm o ho7 hbf
                      have hpr := (cl_eq (a := 1) (b := 9999) (by decide) (by decide) (ev (N.2 0) (fc (N.1 5 i) (σ 1 i) (mn σ (N.1 1) i) (mn σ (N.1 2) i) ld 0 0 0))).2
                      have hpr1 : 1 ≤ price N σ i ld ∧ price N σ i ld ≤ 9999 := hpr
                      have hpv : pv N σ ld i = price N σ i ld * 16 + 1 := by unfold pv; rw [if_neg hwn]
                      obtain ⟨Rf1, e162, gR1⟩ := id hR1
                      refine ax_if_neF 192 dX12_goesOn_153 (by decide) rfl ?_
                      refine ax_aload_n dX12_goesOn_156 rfl ?_
                      refine ax_getf dX12_goesOn_157 flX12_115 e145 rfl ?_
                      refine ax_iload dX12_goesOn_160 rfl ?_
                      refine ax_iload dX12_goesOn_162 rfl ?_
                      refine ax_iast dX12_goesOn_164 e162 (ax_ix_nI (by omega) (by decide)) ?_
                      refine ax_aload_n dX12_goesOn_165 rfl ?_
                      refine ax_iload dX12_goesOn_166 rfl ?_
                      refine ax_iload_n dX12_goesOn_168 rfl ?_
                      refine ax_iload_n dX12_goesOn_169 rfl ?_
                      refine ax_iconst dX12_goesOn_170 (v := nI 1) (by decide) ?_
                      refine ax_iload dX12_goesOn_171 rfl ?_
                      refine ax_ishl dX12_goesOn_173 ?_
                      refine ax_ior dX12_goesOn_174 ?_
                      rw [bt_or met hm o ho7]
                      refine ax_iload dX12_goesOn_175 rfl ?_
                      refine ax_iconst dX12_goesOn_177 (v := nI 1) (by decide) ?_
                      refine ax_iadd dX12_goesOn_178 ?_
                      rw [nI_add row.length 1]
                      refine ax_iload dX12_goesOn_179 rfl ?_
                      refine ax_aload_n dX12_goesOn_181 rfl ?_
                      refine ax_getf dX12_goesOn_182 flX12_112 ((ax_wr_ne (by decide)).trans (e145)) rfl ?_
                      refine ax_iload dX12_goesOn_185 rfl ?_
                      refine ax_iald dX12_goesOn_187 ((ax_wr_ne (by decide)).trans (e161)) (ax_ix_nI (by omega) (by decide)) ?_
                      rw [hC i hir]
                      refine ax_iadd dX12_goesOn_188 ?_
                      rw [nI_add (k / 16) (price N σ i ld), show k / 16 + price N σ i ld = (k + pv N σ ld i) / 16 by rw [hpv]; omega, show row.length + 1 = (row ++ [i]).length by rw [List.length_append]; rfl]
                      have hb2 : But h (ax_wr h1 162 (eI 10 (upd Rf1 row.length (nI i)))) goP := hb.wr (Or.inr (Or.inl rfl))
                      have hl1 : (row ++ [i]).length = row.length + 1 := by rw [List.length_append]; rfl
                      have hG2 : GI (ax_wr h1 162 (eI 10 (upd Rf1 row.length (nI i)))) th ta si pt fa co nm rd ask nw os sw gg z0 := by
                        obtain ⟨q1, q2, q3, q4, Bf1, q5, q6⟩ := hG1
                        exact ⟨(ax_wr_ne (by decide)).trans q1, q2, q3, q4, Bf1, (ax_wr_ne (by decide)).trans q5, q6⟩
                      have hR2 : RwI (ax_wr h1 162 (eI 10 (upd Rf1 row.length (nI i)))) (row ++ [i]) := ⟨_, ax_wr_eq, fun j hj => by
                        rw [hl1] at hj
                        by_cases hjn : j = row.length
                        · rw [hjn, pk_us, getD_ar (Nat.le_refl _), Nat.sub_self]; rfl
                        · rw [pk_un hjn, getD_al (by omega)]; exact gR1 j (by omega)⟩
                      refine ax_cV dX12_goesOn_189 mmX12_goesOn lkX12_307 miX12_goesOn msX12_goesOn (ax_recv_of ((ax_wr_ne (by decide)).trans (e145)) rfl) rfl rfl (Nat.le_of_ble_eq_true rfl) (Nat.le_of_ble_eq_true rfl) rfl rfl (ih o (met ||| 1 <<< o) (row ++ [i]) (k + pv N σ ld i) z0 _ _ ho7 hm2 (by omega) (by rw [hl1]; omega) (by rw [hl1, hpv]; omega) (by rw [hl1, hpv]; omega) ((ax_wr_ne (by decide)).trans (e151)) ((ax_wr_ne (by decide)).trans (e159)) ((ax_wr_ne (by decide)).trans (e161)) hG2 hR2 (fun h3 hb3 hG3 hR3 => ⟨_, rfl, ?_⟩))
                      rw [← stepZ] at hG3
                      refine ax_iinc dX12_goesOn_192 rfl (ax_inc 1) ?_
                      refine ax_goto 79 dX12_goesOn_195 (by decide) ?_
                      rw [nI_add i 1]
                      refine ih3 _ h3 (hb2.tr hb3) hG3 ?_
                      obtain ⟨Rf3, q1, q2⟩ := hR3
                      exact ⟨Rf3, q1, fun j hj => by rw [q2 j (by rw [hl1]; omega), getD_al hj]⟩
              refine ax_iload dX12_goesOn_79 rfl ?_
              refine ax_aload_n dX12_goesOn_81 rfl ?_
              refine ax_cV dX12_goesOn_82 mmX12_roads lkX12_194 miX12_roads msX12_roads (ax_recv_of e145 rfl) rfl rfl (Nat.le_of_ble_eq_true rfl) (Nat.le_of_ble_eq_true rfl) rfl rfl (k_roads e145 e151 ⟨_, rfl, ?_⟩)
              rw [f2]
              refine ax_icmp_geF 198 dX12_goesOn_85 (by decide) (nI_ge (by omega) (by omega)) ?_
              refine ax_aload_n dX12_goesOn_88 rfl ?_
              refine ax_iload dX12_goesOn_89 rfl ?_
              refine ax_iconst dX12_goesOn_91 (v := nI 0) (by decide) ?_
              refine ax_cV dX12_goesOn_92 mmX12_roadOf lkX12_279 miX12_roadOf msX12_roadOf (ax_recv_of e145 rfl) rfl rfl (Nat.le_of_ble_eq_true rfl) (Nat.le_of_ble_eq_true rfl) rfl rfl (k_roadOf (i := 0) (by omega) (by omega) e145 e151 ⟨_, rfl, ?_⟩)
              rw [fr0]
              by_cases hu1 : N.1 3 i = a
              · refine ax_iload_n dX12_goesOn_95 rfl ?_
                refine ax_icmp_neF 109 dX12_goesOn_96 (by decide) (by rw [hu1]) ?_
                refine ax_aload_n dX12_goesOn_99 rfl ?_
                refine ax_iload dX12_goesOn_100 rfl ?_
                refine ax_iconst dX12_goesOn_102 (v := nI 1) (by decide) ?_
                refine ax_cV dX12_goesOn_103 mmX12_roadOf lkX12_279 miX12_roadOf msX12_roadOf (ax_recv_of e145 rfl) rfl rfl (Nat.le_of_ble_eq_true rfl) (Nat.le_of_ble_eq_true rfl) rfl rfl (k_roadOf (i := 1) (by omega) (by omega) e145 e151 ⟨_, rfl, ?_⟩)
                rw [fr1]
                refine ax_goto 131 dX12_goesOn_106 (by decide) ?_
                exact at131 (some (N.1 4 i)) (if_pos hu1)
              · refine ax_iload_n dX12_goesOn_95 rfl ?_
                refine ax_icmp_neT 109 dX12_goesOn_96 (by decide) (fun q => hu1 (nI_inj (by omega) (by omega) q)) ?_
                refine ax_aload_n dX12_goesOn_109 rfl ?_
                refine ax_iload dX12_goesOn_110 rfl ?_
                refine ax_iconst dX12_goesOn_112 (v := nI 1) (by decide) ?_
                refine ax_cV dX12_goesOn_113 mmX12_roadOf lkX12_279 miX12_roadOf msX12_roadOf (ax_recv_of e145 rfl) rfl rfl (Nat.le_of_ble_eq_true rfl) (Nat.le_of_ble_eq_true rfl) rfl rfl (k_roadOf (i := 1) (by omega) (by omega) e145 e151 ⟨_, rfl, ?_⟩)
                rw [fr1]
                by_cases hv1 : N.1 4 i = a
                · refine ax_iload_n dX12_goesOn_116 rfl ?_
                  refine ax_icmp_neF 130 dX12_goesOn_117 (by decide) (by rw [hv1]) ?_
                  refine ax_aload_n dX12_goesOn_120 rfl ?_
                  refine ax_iload dX12_goesOn_121 rfl ?_
                  refine ax_iconst dX12_goesOn_123 (v := nI 0) (by decide) ?_
                  refine ax_cV dX12_goesOn_124 mmX12_roadOf lkX12_279 miX12_roadOf msX12_roadOf (ax_recv_of e145 rfl) rfl rfl (Nat.le_of_ble_eq_true rfl) (Nat.le_of_ble_eq_true rfl) rfl rfl (k_roadOf (i := 0) (by omega) (by omega) e145 e151 ⟨_, rfl, ?_⟩)
                  rw [fr0]
                  refine ax_goto 131 dX12_goesOn_127 (by decide) ?_
                  exact at131 (some (N.1 3 i)) (by unfold oth; rw [if_neg hu1, if_pos hv1])
                · refine ax_iload_n dX12_goesOn_116 rfl ?_
                  refine ax_icmp_neT 130 dX12_goesOn_117 (by decide) (fun q => hv1 (nI_inj (by omega) (by omega) q)) ?_
                  refine ax_iconst dX12_goesOn_130 (v := -1) (by decide) ?_
                  exact at131 none (by unfold oth; rw [if_neg hu1, if_neg hv1])
          refine ax_iload_n dX12_goesOn_28 rfl ?_
          refine ax_iload_n dX12_goesOn_29 rfl ?_
          refine ax_icmp_neT 76 dX12_goesOn_30 (by decide) (fun q => hat (nI_inj (by omega) (by omega) q)) ?_
          refine ax_iconst dX12_goesOn_76 (v := nI 0) (by decide) ?_
          refine ax_istore dX12_goesOn_77 (Nat.le_of_ble_eq_true rfl) ?_
          exact loop (nR N) 0 none h (by omega) But.rf hG hRw
      refine ax_iload dX12_goesOn_0 rfl ?_
      refine ax_aload_n dX12_goesOn_2 rfl ?_
      refine ax_getf dX12_goesOn_3 flX12_301 e145 rfl ?_
      refine ax_icmp_gtF 27 dX12_goesOn_6 (by decide) (nI_nlt (by omega) (by omega)) ?_
      by_cases hc : k / 16 = s.1 / 16
      · refine ax_iload dX12_goesOn_9 rfl ?_
        refine ax_aload_n dX12_goesOn_11 rfl ?_
        refine ax_getf dX12_goesOn_12 flX12_301 e145 rfl ?_
        refine ax_icmp_neF 28 dX12_goesOn_15 (by decide) (by rw [hc]) ?_
        refine ax_iload dX12_goesOn_18 rfl ?_
        refine ax_aload_n dX12_goesOn_20 rfl ?_
        refine ax_getf dX12_goesOn_21 flX12_304 e145 rfl ?_
        refine ax_icmp_ltT 28 dX12_goesOn_24 (by decide) (nI_lt (by omega) (by omega)) ?_
        exact at28
      · refine ax_iload dX12_goesOn_9 rfl ?_
        refine ax_aload_n dX12_goesOn_11 rfl ?_
        refine ax_getf dX12_goesOn_12 flX12_301 e145 rfl ?_
        refine ax_icmp_neT 28 dX12_goesOn_15 (by decide) (fun q => hc (nI_inj (by omega) (by omega) q)) ?_
        exact at28
end MW
