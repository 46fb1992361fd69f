/-! ===== the model: its net and state; what its laws come to ===== -/
def FnB (F : Nat → Int32) (N : Nt) : Prop := F 0 = nI (nS N) ∧ F 1 = nI (nP N) ∧ F 2 = nI (nR N) ∧ F 3 = nI (nT N) ∧ (∀ s, s < nS N → F (7 + 2 * s) = nI (N.1 1 s) ∧ F (7 + 2 * s + 1) = nI (N.1 2 s)) ∧ (∀ r, r < nR N → F (17 + 4 * r + 0) = nI (N.1 3 r) ∧ F (17 + 4 * r + 1) = nI (N.1 4 r) ∧ F (17 + 4 * r + 2) = nI (N.1 5 r))
def FnT (F : Nat → Int32) (T : Nat) (tr : Nat → Nat → Nat) : Prop := ∀ t, t < T → ∀ i, i < 4 → F (57 + 4 * t + i) = nI (tr i t)
def opc (c : Nat) : Nat := if c < 8 then 2 else if 16 ≤ c then 1 else if c = 8 then 3 else if c = 9 then 9 else if c = 10 then 10 else if c = 11 then 7 else if c = 12 then 8 else if c = 13 then 4 else if c = 14 then 5 else 6
def arc (c : Nat) : Nat := if c < 8 then c else if 16 ≤ c then c - 16 else 0
def lwM (F O A : Nat → Int32) (l df : Nat) (cs : List Nat) : Prop := (F (4 + l) = -1 ∧ cs = [df]) ∨ ∃ b, F (4 + l) = nI b ∧ b + cs.length < 1100 ∧ (∀ j, j < cs.length → O (b + j) = nI (opc (cs.getD j 0)) ∧ A (b + j) = nI (arc (cs.getD j 0))) ∧ O (b + cs.length) = nI 0
def FnL (F O A : Nat → Int32) (N : Nt) : Prop := 0 < nR N → lwM F O A 0 0 (N.2 0) ∧ lwM F O A 1 1 (N.2 1) ∧ lwM F O A 2 7 (N.2 2)
def Sb (S : Nat → Int32) (N : Nt) (σ : Sd) : Prop := S 0 = nI (σ 0 0) ∧ (∀ r, r < nR N → S (1 + r) = nI (σ 1 r)) ∧ (∀ c, c < 50 → S (11 + c) = nI (σ 2 c)) ∧ (∀ c, c < 50 → S (61 + c) = nI (σ 3 c))
/-- came last, came in all; fell -/
def Sc (S : Nat → Int32) (n : Nat) (y5 y6 y4 : Nat → Nat) : Prop := (∀ t, t < 6 → S (111 + t) = nI (y5 t) - nI 1) ∧ (∀ t, t < 6 → S (117 + t) = nI (y6 t)) ∧ (∀ s, s < n → S (123 + s) = nI (y4 s))
section ML
variable {G : ax_G} {d : Nat} {h : ax_H} {Q : ax_O → ax_H → Prop} {N : Nt} {σ : Sd}
variable {th ta si pt fa co nm rd ask nw os sw bc bm : Int32} {gg : Int64} {F S O A Fc K : Nat → Int32}
theorem sm_cut {f : Nat → Nat} {a : Nat} : ∀ m, (∀ k, a ≤ k → k < a + m → f k = 0) → sm f (a + m) = sm f a
  | 0, _ => rfl
  | m + 1, hz => by
    show sm f (a + m) + f (a + m) = _
    rw [sm_cut m (fun k h1 h2 => hz k h1 (by omega)), hz (a + m) (by omega) (by omega)]
    rfl
theorem k_mean {r w : Nat} (hr : r < nR N) (hw : w < 2) (hN : nOK N) (hO : sOK N σ) (hF : FnB F N) (hS : Sb S N σ) (e145 : h.2.2 145 = some (eM th ta si pt fa co nm rd ask nw os sw bc bm gg)) (e151 : h.2.2 151 = some (eI 168 F)) (e159 : h.2.2 159 = some (eI 12840 S)) (hq : Q (.inl (some (.int (nI (mn σ (N.1 (1 + w)) r))))) h) : X G (d + 1) mX12_mean 0 (ax_in 7 [.ref 145, .int (nI r), .int (nI w)]) [] h Q := by
  obtain ⟨f0, -, -, -, fs, -⟩ := id hF
  obtain ⟨-, -, s2, -⟩ := id hS
  have hS5 := hN.1
  have hR10 := hN.2.2.1
  have hx : ∀ s, s < nS N → F (7 + 2 * s + w) = nI (N.1 (1 + w) s) := fun s hs => by
    obtain ⟨a1, a2⟩ := fs s hs
    rcases (show w = 0 ∨ w = 1 by omega) with rfl | rfl
    · exact a1
    · exact a2
  have hx9 : ∀ s, s < 5 → N.1 (1 + w) s ≤ 9 := fun s hs => by
    obtain ⟨a1, a2⟩ := hN.2.2.2.2.1 s hs
    rcases (show w = 0 ∨ w = 1 by omega) with rfl | rfl
    · exact a1
    · exact a2
  have hz := fun s h1 h2 => hO.2.2 r s (by omega) h1 h2
  have hp5 := hO.2.1 r (by omega)
  have p5 : sm (fun s => σ 2 (5 * r + s)) 5 = sm (fun s => σ 2 (5 * r + s)) (nS N) := by
    have := sm_cut (f := fun s => σ 2 (5 * r + s)) (a := nS N) (5 - nS N) (fun k h1 h2 => hz k h1 (by omega))
    rwa [show nS N + (5 - nS N) = 5 by omega] at this
  have q5 : sm (fun s => σ 2 (5 * r + s) * N.1 (1 + w) s) 5 = sm (fun s => σ 2 (5 * r + s) * N.1 (1 + w) s) (nS N) := by
    have := sm_cut (f := fun s => σ 2 (5 * r + s) * N.1 (1 + w) s) (a := nS N) (5 - nS N) (fun k h1 h2 => by rw [hz k h1 (by omega), Nat.zero_mul])
    rwa [show nS N + (5 - nS N) = 5 by omega] at this
  have le9 : ∀ n, n ≤ 5 → sm (fun s => σ 2 (5 * r + s) * N.1 (1 + w) s) n ≤ sm (fun s => σ 2 (5 * r + s)) n * 9 := by
    intro n
    induction n with
    | zero => intro _; exact Nat.le_refl _
    | succ n ih =>
      intro hn
      have h1 := ih (by omega)
      have h2 := Nat.mul_le_mul_left (σ 2 (5 * r + n)) (hx9 n (by omega))
      show sm _ n + σ 2 (5 * r + n) * N.1 (1 + w) n ≤ (sm _ n + σ 2 (5 * r + n)) * 9
      omega
  have loop : ∀ (m i : Nat) (o6 : Option Value), i + m = nS N → X G (d + 1) mX12_mean 8 [some (.ref 145), some (.int (nI r)), some (.int (nI w)), some (.int (nI (sm (fun s => σ 2 (5 * r + s)) i))), some (.int (nI (sm (fun s => σ 2 (5 * r + s) * N.1 (1 + w) s) i))), some (.int (nI i)), o6] [] h Q := by
    intro m
    induction m with
    | zero =>
      intro i o6 hi
      obtain rfl : i = nS N := by omega
      have hb := le9 (nS N) hS5
      refine ax_iload dX12_mean_8 rfl ?_
      refine ax_aload_n dX12_mean_10 rfl ?_
      refine ax_cV dX12_mean_11 mmX12_stuffs lkX12_273 miX12_stuffs msX12_stuffs (ax_recv_of e145 rfl) rfl rfl (Nat.le_of_ble_eq_true rfl) (Nat.le_of_ble_eq_true rfl) rfl rfl (k_stuffs e145 e151 ⟨_, rfl, ?_⟩)
      rw [f0]
      refine ax_icmp_geT 66 dX12_mean_14 (by decide) (Int32.le_refl _) ?_
      unfold mn at hq
      rw [p5, q5] at hq
      rw [p5] at hp5
      by_cases hc : sm (fun s => σ 2 (5 * r + s)) (nS N) = 0
      · rw [hc, Nat.div_zero] at hq
        refine ax_iload_n dX12_mean_66 rfl ?_
        refine ax_if_neF 74 dX12_mean_67 (by decide) (by rw [hc]; rfl) ?_
        refine ax_iconst dX12_mean_70 (v := nI 0) (by decide) ?_
        refine ax_goto 78 dX12_mean_71 (by decide) ?_
        exact ax_ireturn dX12_mean_78 rfl hq
      · refine ax_iload_n dX12_mean_66 rfl ?_
        refine ax_if_neT 74 dX12_mean_67 (by decide) (nI_ne0 (by omega) (by omega)) ?_
        refine ax_iload dX12_mean_74 rfl ?_
        refine ax_iload_n dX12_mean_76 rfl ?_
        refine ax_idiv dX12_mean_77 (nI_ne0 (by omega) (by omega)) ?_
        rw [pk_div (by omega) (by omega) (by omega)]
        exact ax_ireturn dX12_mean_78 rfl hq
    | succ m ih =>
      intro i o6 hi
      refine ax_iload dX12_mean_8 rfl ?_
      refine ax_aload_n dX12_mean_10 rfl ?_
      refine ax_cV dX12_mean_11 mmX12_stuffs lkX12_273 miX12_stuffs msX12_stuffs (ax_recv_of e145 rfl) rfl rfl (Nat.le_of_ble_eq_true rfl) (Nat.le_of_ble_eq_true rfl) rfl rfl (k_stuffs e145 e151 ⟨_, rfl, ?_⟩)
      rw [f0]
      refine ax_icmp_geF 66 dX12_mean_14 (by decide) (nI_ge (by omega) (by omega)) ?_
      refine ax_aload_n dX12_mean_17 rfl ?_
      refine ax_getf dX12_mean_18 flX12_99 e145 rfl ?_
      refine ax_bipush dX12_mean_21 (v := nI 11) (by decide) ?_
      refine ax_iconst dX12_mean_23 (v := nI 5) (by decide) ?_
      refine ax_iload_n dX12_mean_24 rfl ?_
      refine ax_imul dX12_mean_25 ?_
      refine ax_iadd dX12_mean_26 ?_
      refine ax_iload dX12_mean_27 rfl ?_
      refine ax_iadd dX12_mean_29 ?_
      rw [pk_mul 5 r, nI_add 11 (5 * r), nI_add (11 + 5 * r) i]
      refine ax_iald dX12_mean_30 e159 (ax_ix_nI (j := 11 + 5 * r + i) (by omega) (by decide)) ?_
      rw [show 11 + 5 * r + i = 11 + (5 * r + i) by omega, s2 (5 * r + i) (by omega)]
      refine ax_istore dX12_mean_31 (Nat.le_of_ble_eq_true rfl) ?_
      refine ax_iload_n dX12_mean_33 rfl ?_
      refine ax_iload dX12_mean_34 rfl ?_
      refine ax_iadd dX12_mean_36 ?_
      refine ax_istore_n dX12_mean_37 (Nat.le_of_ble_eq_true rfl) ?_
      refine ax_iload dX12_mean_38 rfl ?_
      refine ax_iload dX12_mean_40 rfl ?_
      refine ax_aload_n dX12_mean_42 rfl ?_
      refine ax_getf dX12_mean_43 flX12_75 e145 rfl ?_
      refine ax_bipush dX12_mean_46 (v := nI 7) (by decide) ?_
      refine ax_iconst dX12_mean_48 (v := nI 2) (by decide) ?_
      refine ax_iload dX12_mean_49 rfl ?_
      refine ax_imul dX12_mean_51 ?_
      refine ax_iadd dX12_mean_52 ?_
      refine ax_iload_n dX12_mean_53 rfl ?_
      refine ax_iadd dX12_mean_54 ?_
      rw [pk_mul 2 i, nI_add 7 (2 * i), nI_add (7 + 2 * i) w]
      refine ax_iald dX12_mean_55 e151 (ax_ix_nI (j := 7 + 2 * i + w) (by omega) (by decide)) ?_
      rw [hx i (by omega)]
      refine ax_imul dX12_mean_56 ?_
      refine ax_iadd dX12_mean_57 ?_
      refine ax_istore dX12_mean_58 (Nat.le_of_ble_eq_true rfl) ?_
      refine ax_iinc dX12_mean_60 rfl (ax_inc 1) ?_
      refine ax_goto 8 dX12_mean_63 (by decide) ?_
      rw [nI_add (sm (fun s => σ 2 (5 * r + s)) i) (σ 2 (5 * r + i)), pk_mul (σ 2 (5 * r + i)) (N.1 (1 + w) i), nI_add (sm (fun s => σ 2 (5 * r + s) * N.1 (1 + w) s) i) (σ 2 (5 * r + i) * N.1 (1 + w) i), nI_add i 1]
      exact ih (i + 1) _ (by omega)
  refine ax_iconst dX12_mean_0 (v := nI 0) (by decide) ?_
  refine ax_istore_n dX12_mean_1 (Nat.le_of_ble_eq_true rfl) ?_
  refine ax_iconst dX12_mean_2 (v := nI 0) (by decide) ?_
  refine ax_istore dX12_mean_3 (Nat.le_of_ble_eq_true rfl) ?_
  refine ax_iconst dX12_mean_5 (v := nI 0) (by decide) ?_
  refine ax_istore dX12_mean_6 (Nat.le_of_ble_eq_true rfl) ?_
  exact loop (nS N) 0 none (by omega)
theorem k_both {c : Nat} {x y : Int32} (h1 : 8 < c) (h2 : c < 16) (hq : Q (.inl (some (.int (jn c x y)))) h) : X G d mX12_both 0 (ax_in 3 [.int (nI (opc c)), .int x, .int y]) [] h Q := by
  unfold jn at hq
  rcases (show c = 9 ∨ c = 10 ∨ c = 11 ∨ c = 12 ∨ c = 13 ∨ c = 14 ∨ c = 15 by omega) with rfl | rfl | rfl | rfl | rfl | rfl | rfl
  · have hq : Q (.inl (some (.int (b1 (¬ x = 0 ∧ ¬ y = 0))))) h := hq
    refine ax_iload_n dX12_both_0 rfl ?_
    refine ax_tableIn 74 dX12_both_1 (by decide) (by decide) rfl (by decide) ?_
    by_cases g1 : x = 0
    · rw [b1_f (fun q => q.1 g1)] at hq
      refine ax_iload_n dX12_both_74 rfl ?_
      refine ax_if_eqT 86 dX12_both_75 (by decide) g1 ?_
      refine ax_iconst dX12_both_86 (v := nI 0) (by decide) ?_
      exact ax_ireturn dX12_both_87 rfl hq
    · by_cases g2 : y = 0
      · rw [b1_f (fun q => q.2 g2)] at hq
        refine ax_iload_n dX12_both_74 rfl ?_
        refine ax_if_eqF 86 dX12_both_75 (by decide) g1 ?_
        refine ax_iload_n dX12_both_78 rfl ?_
        refine ax_if_eqT 86 dX12_both_79 (by decide) g2 ?_
        refine ax_iconst dX12_both_86 (v := nI 0) (by decide) ?_
        exact ax_ireturn dX12_both_87 rfl hq
      · rw [b1_t ⟨g1, g2⟩] at hq
        refine ax_iload_n dX12_both_74 rfl ?_
        refine ax_if_eqF 86 dX12_both_75 (by decide) g1 ?_
        refine ax_iload_n dX12_both_78 rfl ?_
        refine ax_if_eqF 86 dX12_both_79 (by decide) g2 ?_
        refine ax_iconst dX12_both_82 (v := nI 1) (by decide) ?_
        refine ax_goto 87 dX12_both_83 (by decide) ?_
        exact ax_ireturn dX12_both_87 rfl hq
  · have hq : Q (.inl (some (.int (b1 (¬ x = 0 ∨ ¬ y = 0))))) h := hq
    refine ax_iload_n dX12_both_0 rfl ?_
    refine ax_tableOut 88 dX12_both_1 (by decide) (by decide) ?_
    by_cases g1 : x = 0
    · by_cases g2 : y = 0
      · rw [b1_f (fun q => q.elim (fun z => z g1) (fun z => z g2))] at hq
        refine ax_iload_n dX12_both_88 rfl ?_
        refine ax_if_neF 96 dX12_both_89 (by decide) g1 ?_
        refine ax_iload_n dX12_both_92 rfl ?_
        refine ax_if_eqT 100 dX12_both_93 (by decide) g2 ?_
        refine ax_iconst dX12_both_100 (v := nI 0) (by decide) ?_
        exact ax_ireturn dX12_both_101 rfl hq
      · rw [b1_t (Or.inr g2)] at hq
        refine ax_iload_n dX12_both_88 rfl ?_
        refine ax_if_neF 96 dX12_both_89 (by decide) g1 ?_
        refine ax_iload_n dX12_both_92 rfl ?_
        refine ax_if_eqF 100 dX12_both_93 (by decide) g2 ?_
        refine ax_iconst dX12_both_96 (v := nI 1) (by decide) ?_
        refine ax_goto 101 dX12_both_97 (by decide) ?_
        exact ax_ireturn dX12_both_101 rfl hq
    · rw [b1_t (Or.inl g1)] at hq
      refine ax_iload_n dX12_both_88 rfl ?_
      refine ax_if_neT 96 dX12_both_89 (by decide) g1 ?_
      refine ax_iconst dX12_both_96 (v := nI 1) (by decide) ?_
      refine ax_goto 101 dX12_both_97 (by decide) ?_
      exact ax_ireturn dX12_both_101 rfl hq
  · have hq : Q (.inl (some (.int (b1 (¬ y ≤ x))))) h := hq
    refine ax_iload_n dX12_both_0 rfl ?_
    refine ax_tableIn 52 dX12_both_1 (by decide) (by decide) rfl (by decide) ?_
    by_cases g1 : y ≤ x
    · rw [b1_f (fun q => q g1)] at hq
      refine ax_iload_n dX12_both_52 rfl ?_
      refine ax_iload_n dX12_both_53 rfl ?_
      refine ax_icmp_geT 61 dX12_both_54 (by decide) g1 ?_
      refine ax_iconst dX12_both_61 (v := nI 0) (by decide) ?_
      exact ax_ireturn dX12_both_62 rfl hq
    · rw [b1_t g1] at hq
      refine ax_iload_n dX12_both_52 rfl ?_
      refine ax_iload_n dX12_both_53 rfl ?_
      refine ax_icmp_geF 61 dX12_both_54 (by decide) g1 ?_
      refine ax_iconst dX12_both_57 (v := nI 1) (by decide) ?_
      refine ax_goto 62 dX12_both_58 (by decide) ?_
      exact ax_ireturn dX12_both_62 rfl hq
  · have hq : Q (.inl (some (.int (b1 (x = y))))) h := hq
    refine ax_iload_n dX12_both_0 rfl ?_
    refine ax_tableIn 63 dX12_both_1 (by decide) (by decide) rfl (by decide) ?_
    by_cases g1 : x = y
    · rw [b1_t g1] at hq
      refine ax_iload_n dX12_both_63 rfl ?_
      refine ax_iload_n dX12_both_64 rfl ?_
      refine ax_icmp_neF 72 dX12_both_65 (by decide) g1 ?_
      refine ax_iconst dX12_both_68 (v := nI 1) (by decide) ?_
      refine ax_goto 73 dX12_both_69 (by decide) ?_
      exact ax_ireturn dX12_both_73 rfl hq
    · rw [b1_f g1] at hq
      refine ax_iload_n dX12_both_63 rfl ?_
      refine ax_iload_n dX12_both_64 rfl ?_
      refine ax_icmp_neT 72 dX12_both_65 (by decide) g1 ?_
      refine ax_iconst dX12_both_72 (v := nI 0) (by decide) ?_
      exact ax_ireturn dX12_both_73 rfl hq
  · refine ax_iload_n dX12_both_0 rfl ?_
    refine ax_tableIn 40 dX12_both_1 (by decide) (by decide) rfl (by decide) ?_
    refine ax_iload_n dX12_both_40 rfl ?_
    refine ax_iload_n dX12_both_41 rfl ?_
    refine ax_iadd dX12_both_42 ?_
    exact ax_ireturn dX12_both_43 rfl hq
  · refine ax_iload_n dX12_both_0 rfl ?_
    refine ax_tableIn 44 dX12_both_1 (by decide) (by decide) rfl (by decide) ?_
    refine ax_iload_n dX12_both_44 rfl ?_
    refine ax_iload_n dX12_both_45 rfl ?_
    refine ax_isub dX12_both_46 ?_
    exact ax_ireturn dX12_both_47 rfl hq
  · refine ax_iload_n dX12_both_0 rfl ?_
    refine ax_tableIn 48 dX12_both_1 (by decide) (by decide) rfl (by decide) ?_
    refine ax_iload_n dX12_both_48 rfl ?_
    refine ax_iload_n dX12_both_49 rfl ?_
    refine ax_imul dX12_both_50 ?_
    exact ax_ireturn dX12_both_51 rfl hq
theorem k_worthAt {b : Nat} {cs : List Nat} (ho : okc cs 0) (hC : ∀ j, j < cs.length → O (b + j) = nI (opc (cs.getD j 0)) ∧ A (b + j) = nI (arc (cs.getD j 0))) (hend : O (b + cs.length) = nI 0) (hb : b + cs.length < 1100) (e145 : h.2.2 145 = some (eM th ta si pt fa co nm rd ask nw os sw bc bm gg)) (e152 : h.2.2 152 = some (eI 2200 O)) (e153 : h.2.2 153 = some (eI 2200 A)) (e157 : h.2.2 157 = some (eI 8 Fc)) (e158 : h.2.2 158 = some (eI 1100 K))
    (hq : ∀ K', Q (.inl (some (.int (ev cs Fc)))) (ax_wr h 158 (eI 1100 K'))) : X G (d + 1) mX12_worthAt 0 (ax_in 5 [.ref 145, .int (nI b)]) [] h Q := by
  have loop : ∀ (cs' : List Nat) (i : Nat) (K1 : Nat → Int32) (t : Nat) (o4 : Option Value), cs.drop i = cs' → i ≤ cs.length → t ≤ 32 → okc cs' t → rs Fc cs' K1 t 0 = ev cs Fc → X G (d + 1) mX12_worthAt 4 [some (.ref 145), some (.int (nI b)), some (.int (nI t)), some (.int (nI (b + i))), o4] [] (ax_wr h 158 (eI 1100 K1)) Q := by
    intro cs'
    induction cs' with
    | nil =>
      intro i K1 t o4 hd hil ht32 ht hf
      have hi : cs.length ≤ i := List.drop_eq_nil_iff.mp hd
      obtain rfl : i = cs.length := by omega
      refine ax_aload_n dX12_worthAt_4 rfl ?_
      refine ax_getf dX12_worthAt_5 flX12_78 ((ax_wr_ne (by decide)).trans (e145)) rfl ?_
      refine ax_iload_n dX12_worthAt_8 rfl ?_
      refine ax_iald dX12_worthAt_9 ((ax_wr_ne (by decide)).trans (e152)) (ax_ix_nI (by omega) (by decide)) ?_
      rw [hend]
      refine ax_if_eqT 140 dX12_worthAt_10 (by decide) rfl ?_
      refine ax_aload_n dX12_worthAt_140 rfl ?_
      refine ax_getf dX12_worthAt_141 flX12_96 ((ax_wr_ne (by decide)).trans (e145)) rfl ?_
      refine ax_iconst dX12_worthAt_144 (v := nI 0) (by decide) ?_
      refine ax_iald dX12_worthAt_145 ax_wr_eq (ax_ix_nI (j := 0) (by decide) (by decide)) ?_
      exact ax_ireturn dX12_worthAt_146 rfl (by rw [show K1 0 = ev cs Fc from hf]; exact hq K1)
    | cons c cs' ih =>
      intro i K1 t o4 hd hil ht32 ht hf
      obtain ⟨hi, hg, hd1⟩ := dropC hd
      obtain ⟨hc0, h1, h2, h3⟩ := ht
      obtain ⟨hCo, hCa⟩ := hC i hi
      rw [hg] at hCo hCa
      have hop : 1 ≤ opc c ∧ opc c ≤ 10 := by
        unfold opc
        repeat' split
        all_goals omega
      refine ax_aload_n dX12_worthAt_4 rfl ?_
      refine ax_getf dX12_worthAt_5 flX12_78 ((ax_wr_ne (by decide)).trans (e145)) rfl ?_
      refine ax_iload_n dX12_worthAt_8 rfl ?_
      refine ax_iald dX12_worthAt_9 ((ax_wr_ne (by decide)).trans (e152)) (ax_ix_nI (by omega) (by decide)) ?_
      rw [hCo]
      refine ax_if_eqF 140 dX12_worthAt_10 (by decide) (nI_ne0 (by omega) (by omega)) ?_
      refine ax_aload_n dX12_worthAt_13 rfl ?_
      refine ax_getf dX12_worthAt_14 flX12_78 ((ax_wr_ne (by decide)).trans (e145)) rfl ?_
      refine ax_iload_n dX12_worthAt_17 rfl ?_
      refine ax_iald dX12_worthAt_18 ((ax_wr_ne (by decide)).trans (e152)) (ax_ix_nI (by omega) (by decide)) ?_
      rw [hCo]
      simp only [rs] at hf
      by_cases g2 : 16 ≤ c
      · rw [if_neg (by omega), if_pos g2] at hf
        obtain ⟨k1, k2⟩ := h1 (Or.inr g2)
        have e1 : opc c = 1 := by unfold opc; rw [if_neg (by omega), if_pos g2]
        have e2 : arc c = c - 16 := by unfold arc; rw [if_neg (by omega), if_pos g2]
        rw [e1]
        rw [e2] at hCa
        refine ax_istore dX12_worthAt_19 (Nat.le_of_ble_eq_true rfl) ?_
        refine ax_iload dX12_worthAt_21 rfl ?_
        refine ax_iconst dX12_worthAt_23 (v := nI 1) (by decide) ?_
        refine ax_icmp_eqT 33 dX12_worthAt_24 (by decide) rfl ?_
        refine ax_aload_n dX12_worthAt_33 rfl ?_
        refine ax_getf dX12_worthAt_34 flX12_96 ((ax_wr_ne (by decide)).trans (e145)) rfl ?_
        refine ax_iload_n dX12_worthAt_37 rfl ?_
        refine ax_iload dX12_worthAt_38 rfl ?_
        refine ax_iconst dX12_worthAt_40 (v := nI 1) (by decide) ?_
        refine ax_icmp_neF 53 dX12_worthAt_41 (by decide) rfl ?_
        refine ax_aload_n dX12_worthAt_44 rfl ?_
        refine ax_getf dX12_worthAt_45 flX12_81 ((ax_wr_ne (by decide)).trans (e145)) rfl ?_
        refine ax_iload_n dX12_worthAt_48 rfl ?_
        refine ax_iald dX12_worthAt_49 ((ax_wr_ne (by decide)).trans (e153)) (ax_ix_nI (by omega) (by decide)) ?_
        rw [hCa]
        refine ax_goto 64 dX12_worthAt_50 (by decide) ?_
        refine ax_iast dX12_worthAt_64 ax_wr_eq (ax_ix_nI (by omega) (by decide)) ?_
        rw [ax_wr_wr]
        refine ax_iinc dX12_worthAt_65 rfl (ax_inc 1) ?_
        refine ax_goto 134 dX12_worthAt_68 (by decide) ?_
        refine ax_iinc dX12_worthAt_134 rfl (ax_inc 1) ?_
        refine ax_goto 4 dX12_worthAt_137 (by decide) ?_
        rw [nI_add, nI_add]
        exact ih (i + 1) _ _ _ hd1 (by omega) (by omega) k2 hf
      · by_cases g1 : c < 8
        · rw [if_pos g1] at hf
          obtain ⟨k1, k2⟩ := h1 (Or.inl g1)
          have e1 : opc c = 2 := by unfold opc; rw [if_pos g1]
          have e2 : arc c = c := by unfold arc; rw [if_pos g1]
          rw [e1]
          rw [e2] at hCa
          refine ax_istore dX12_worthAt_19 (Nat.le_of_ble_eq_true rfl) ?_
          refine ax_iload dX12_worthAt_21 rfl ?_
          refine ax_iconst dX12_worthAt_23 (v := nI 1) (by decide) ?_
          refine ax_icmp_eqF 33 dX12_worthAt_24 (by decide) (by decide) ?_
          refine ax_iload dX12_worthAt_27 rfl ?_
          refine ax_iconst dX12_worthAt_29 (v := nI 2) (by decide) ?_
          refine ax_icmp_neF 71 dX12_worthAt_30 (by decide) rfl ?_
          refine ax_aload_n dX12_worthAt_33 rfl ?_
          refine ax_getf dX12_worthAt_34 flX12_96 ((ax_wr_ne (by decide)).trans (e145)) rfl ?_
          refine ax_iload_n dX12_worthAt_37 rfl ?_
          refine ax_iload dX12_worthAt_38 rfl ?_
          refine ax_iconst dX12_worthAt_40 (v := nI 1) (by decide) ?_
          refine ax_icmp_neT 53 dX12_worthAt_41 (by decide) (by decide) ?_
          refine ax_aload_n dX12_worthAt_53 rfl ?_
          refine ax_getf dX12_worthAt_54 flX12_93 ((ax_wr_ne (by decide)).trans (e145)) rfl ?_
          refine ax_aload_n dX12_worthAt_57 rfl ?_
          refine ax_getf dX12_worthAt_58 flX12_81 ((ax_wr_ne (by decide)).trans (e145)) rfl ?_
          refine ax_iload_n dX12_worthAt_61 rfl ?_
          refine ax_iald dX12_worthAt_62 ((ax_wr_ne (by decide)).trans (e153)) (ax_ix_nI (by omega) (by decide)) ?_
          rw [hCa]
          refine ax_iald dX12_worthAt_63 ((ax_wr_ne (by decide)).trans (e157)) (ax_ix_nI g1 (by decide)) ?_
          refine ax_iast dX12_worthAt_64 ax_wr_eq (ax_ix_nI (by omega) (by decide)) ?_
          rw [ax_wr_wr]
          refine ax_iinc dX12_worthAt_65 rfl (ax_inc 1) ?_
          refine ax_goto 134 dX12_worthAt_68 (by decide) ?_
          refine ax_iinc dX12_worthAt_134 rfl (ax_inc 1) ?_
          refine ax_goto 4 dX12_worthAt_137 (by decide) ?_
          rw [nI_add, nI_add]
          exact ih (i + 1) _ _ _ hd1 (by omega) (by omega) k2 hf
        · rw [if_neg g1, if_neg g2] at hf
          by_cases g3 : c = 8
          · rw [if_pos g3] at hf
            obtain ⟨k1, k2⟩ := h2 g3
            subst g3
            refine ax_istore dX12_worthAt_19 (Nat.le_of_ble_eq_true rfl) ?_
            refine ax_iload dX12_worthAt_21 rfl ?_
            refine ax_iconst dX12_worthAt_23 (v := nI 1) (by decide) ?_
            refine ax_icmp_eqF 33 dX12_worthAt_24 (by decide) (by decide) ?_
            refine ax_iload dX12_worthAt_27 rfl ?_
            refine ax_iconst dX12_worthAt_29 (v := nI 2) (by decide) ?_
            refine ax_icmp_neT 71 dX12_worthAt_30 (by decide) (by decide) ?_
            refine ax_iload dX12_worthAt_71 rfl ?_
            refine ax_iconst dX12_worthAt_73 (v := nI 3) (by decide) ?_
            refine ax_icmp_neF 104 dX12_worthAt_74 (by decide) rfl ?_
            refine ax_aload_n dX12_worthAt_77 rfl ?_
            refine ax_getf dX12_worthAt_78 flX12_96 ((ax_wr_ne (by decide)).trans (e145)) rfl ?_
            refine ax_iload_n dX12_worthAt_81 rfl ?_
            refine ax_iconst dX12_worthAt_82 (v := nI 1) (by decide) ?_
            refine ax_isub dX12_worthAt_83 ?_
            rw [pk_sub k1]
            refine ax_aload_n dX12_worthAt_84 rfl ?_
            refine ax_getf dX12_worthAt_85 flX12_96 ((ax_wr_ne (by decide)).trans (e145)) rfl ?_
            refine ax_iload_n dX12_worthAt_88 rfl ?_
            refine ax_iconst dX12_worthAt_89 (v := nI 1) (by decide) ?_
            refine ax_isub dX12_worthAt_90 ?_
            rw [pk_sub k1]
            refine ax_iald dX12_worthAt_91 ax_wr_eq (ax_ix_nI (by omega) (by decide)) ?_
            by_cases g4 : K1 (t - 1) = 0
            · rw [b1_t g4] at hf
              refine ax_if_neF 99 dX12_worthAt_92 (by decide) g4 ?_
              refine ax_iconst dX12_worthAt_95 (v := nI 1) (by decide) ?_
              refine ax_goto 100 dX12_worthAt_96 (by decide) ?_
              refine ax_iast dX12_worthAt_100 ax_wr_eq (ax_ix_nI (by omega) (by decide)) ?_
              rw [ax_wr_wr]
              refine ax_goto 134 dX12_worthAt_101 (by decide) ?_
              refine ax_iinc dX12_worthAt_134 rfl (ax_inc 1) ?_
              refine ax_goto 4 dX12_worthAt_137 (by decide) ?_
              rw [nI_add]
              exact ih (i + 1) _ _ _ hd1 (by omega) (by omega) k2 hf
            · rw [b1_f g4] at hf
              refine ax_if_neT 99 dX12_worthAt_92 (by decide) g4 ?_
              refine ax_iconst dX12_worthAt_99 (v := nI 0) (by decide) ?_
              refine ax_iast dX12_worthAt_100 ax_wr_eq (ax_ix_nI (by omega) (by decide)) ?_
              rw [ax_wr_wr]
              refine ax_goto 134 dX12_worthAt_101 (by decide) ?_
              refine ax_iinc dX12_worthAt_134 rfl (ax_inc 1) ?_
              refine ax_goto 4 dX12_worthAt_137 (by decide) ?_
              rw [nI_add]
              exact ih (i + 1) _ _ _ hd1 (by omega) (by omega) k2 hf
          · rw [if_neg g3] at hf
            obtain ⟨k1, k2⟩ := h3 ⟨by omega, by omega⟩
            have e1 : ¬ opc c = 1 ∧ ¬ opc c = 2 ∧ ¬ opc c = 3 := by
              rcases (show c = 9 ∨ c = 10 ∨ c = 11 ∨ c = 12 ∨ c = 13 ∨ c = 14 ∨ c = 15 by omega) with rfl | rfl | rfl | rfl | rfl | rfl | rfl <;> decide
            refine ax_istore dX12_worthAt_19 (Nat.le_of_ble_eq_true rfl) ?_
            refine ax_iload dX12_worthAt_21 rfl ?_
            refine ax_iconst dX12_worthAt_23 (v := nI 1) (by decide) ?_
            refine ax_icmp_eqF 33 dX12_worthAt_24 (by decide) (fun q => e1.1 ((nI_eq (by omega) (by omega)).mp q)) ?_
            refine ax_iload dX12_worthAt_27 rfl ?_
            refine ax_iconst dX12_worthAt_29 (v := nI 2) (by decide) ?_
            refine ax_icmp_neT 71 dX12_worthAt_30 (by decide) (fun q => e1.2.1 ((nI_eq (by omega) (by omega)).mp q)) ?_
            refine ax_iload dX12_worthAt_71 rfl ?_
            refine ax_iconst dX12_worthAt_73 (v := nI 3) (by decide) ?_
            refine ax_icmp_neT 104 dX12_worthAt_74 (by decide) (fun q => e1.2.2 ((nI_eq (by omega) (by omega)).mp q)) ?_
            refine ax_iinc dX12_worthAt_104 rfl (ax_incm 1) ?_
            rw [pk_sub (show 1 ≤ t by omega)]
            refine ax_aload_n dX12_worthAt_107 rfl ?_
            refine ax_getf dX12_worthAt_108 flX12_96 ((ax_wr_ne (by decide)).trans (e145)) rfl ?_
            refine ax_iload_n dX12_worthAt_111 rfl ?_
            refine ax_iconst dX12_worthAt_112 (v := nI 1) (by decide) ?_
            refine ax_isub dX12_worthAt_113 ?_
            rw [pk_sub (by omega)]
            refine ax_iload dX12_worthAt_114 rfl ?_
            refine ax_aload_n dX12_worthAt_116 rfl ?_
            refine ax_getf dX12_worthAt_117 flX12_96 ((ax_wr_ne (by decide)).trans (e145)) rfl ?_
            refine ax_iload_n dX12_worthAt_120 rfl ?_
            refine ax_iconst dX12_worthAt_121 (v := nI 1) (by decide) ?_
            refine ax_isub dX12_worthAt_122 ?_
            rw [pk_sub (by omega)]
            refine ax_iald dX12_worthAt_123 ax_wr_eq (ax_ix_nI (by omega) (by decide)) ?_
            refine ax_aload_n dX12_worthAt_124 rfl ?_
            refine ax_getf dX12_worthAt_125 flX12_96 ((ax_wr_ne (by decide)).trans (e145)) rfl ?_
            refine ax_iload_n dX12_worthAt_128 rfl ?_
            refine ax_iald dX12_worthAt_129 ax_wr_eq (ax_ix_nI (by omega) (by decide)) ?_
            refine ax_cS dX12_worthAt_130 mmX12_both lkX12_259 mtX12_both rfl rfl (Nat.le_of_ble_eq_true rfl) (Nat.le_of_ble_eq_true rfl) rfl rfl (k_both (by omega) (by omega) ⟨_, rfl, ?_⟩)
            rw [show t - 1 - 1 = t - 2 by omega]
            refine ax_iast dX12_worthAt_133 ax_wr_eq (ax_ix_nI (by omega) (by decide)) ?_
            rw [ax_wr_wr]
            refine ax_iinc dX12_worthAt_134 rfl (ax_inc 1) ?_
            refine ax_goto 4 dX12_worthAt_137 (by decide) ?_
            rw [nI_add]
            exact ih (i + 1) _ _ _ hd1 (by omega) (by omega) k2 hf
  refine ax_iconst dX12_worthAt_0 (v := nI 0) (by decide) ?_
  refine ax_istore_n dX12_worthAt_1 (Nat.le_of_ble_eq_true rfl) ?_
  refine ax_iload_n dX12_worthAt_2 rfl ?_
  refine ax_istore_n dX12_worthAt_3 (Nat.le_of_ble_eq_true rfl) ?_
  exact loop cs 0 K 0 none rfl (by omega) (by omega) ho (ev_eq ho Fc K) |> fun q => by rw [ax_wr_id e158] at q; exact q
end ML
