/-! ===== a year keeps the numbers small ===== -/
section BD
variable {N : Nt} {σ : Sd}
theorem wk_un {p B : Nat → Nat} {t : Nat} : ∀ (n : Nat) (a : Option Nat), (∀ x, a = some x → B x < 536870912) → ∀ r ∈ (wkN N p B t n a).1, p r < 536870912
  | 0, a, _, r, hr => by cases hr
  | n + 1, none, _, r, hr => by cases hr
  | n + 1, some a, hB, r, hr => by
    unfold wkN at hr
    split at hr
    · cases hr
    · split at hr
      · cases hr
      · rename_i q he
        have hc := (fst_lt he).2.2
        have hBa := hB a rfl
        unfold frs at hc
        rcases List.mem_cons.mp hr with rfl | hr
        · split at hc
          · cases hc
          · have := eq_of_beq hc
            omega
        · refine wk_un n (oth N q a) (fun x hx => ?_) r hr
          rw [hx] at hc
          have := eq_of_beq hc
          omega
theorem wy_un {p : Nat → Nat} {f t r : Nat} (hr : r ∈ (wy N p f t).1) : p r < 536870912 ∧ r < nR N := by
  refine ⟨wk_un 7 _ (fun x hx => ?_) r hr, (wk_mem 7 _).2 r hr⟩
  by_cases hc : (bfN N p t 7).1 f < 536870912
  · rw [if_pos hc] at hx; cases hx; exact hc
  · rw [if_neg hc] at hx; cases hx
theorem wy_worn {ld f t r : Nat} (hw : 1000 ≤ σ 1 r) : r ∉ (wy N (pv N σ ld) f t).1 := fun hr => by
  have h1 := (wy_un hr).1
  unfold pv at h1
  rw [if_pos hw] at h1
  omega
theorem cr_out {s r : Nat} : ∀ (w : List Nat) (l : Nat) (ps ly : Nat → Nat), r ∉ w → (cr N σ s w l ps ly).2.1 r = ps r
  | [], _, _, _, _ => rfl
  | q :: w, l, ps, ly, hr => by
    show (cr N σ s w _ _ _).2.1 r = _
    rw [cr_out w _ _ _ (fun z => hr (List.mem_cons_of_mem _ z))]
    exact if_neg (fun z : r = q => hr (z ▸ List.mem_cons_self))
theorem tf_worn {tr : Nat → Nat → Nat} {r : Nat} (hw : 1000 ≤ σ 1 r) : ∀ i, (tf N σ tr i).1 r = 0
  | 0 => rfl
  | i + 1 => by
    show (t1 N σ tr i (tf N σ tr i)).1 r = 0
    unfold t1
    split
    · exact (cr_out _ _ _ _ (wy_worn hw)).trans (tf_worn hw i)
    · exact tf_worn hw i
theorem sm_ad {f : Nat → Nat} {k v : Nat} : ∀ n, sm (adN f k v) n = sm f n + if k < n then v else 0
  | 0 => rfl
  | n + 1 => by
    show sm (adN f k v) n + adN f k v n = sm f n + f n + _
    rw [sm_ad n]
    unfold adN
    by_cases h1 : n = k
    · subst h1
      rw [if_neg (Nat.lt_irrefl _), if_pos rfl, if_pos (by omega)]
      omega
    · rw [if_neg h1]
      by_cases h2 : k < n
      · rw [if_pos h2, if_pos (by omega)]; omega
      · rw [if_neg h2, if_neg (by omega)]; omega
theorem sm_add {f : Nat → Nat} (a : Nat) : ∀ m, sm f (a + m) = sm f a + sm (fun s => f (a + s)) m
  | 0 => rfl
  | m + 1 => by
    show sm f (a + m) + f (a + m) = sm f a + (sm (fun s => f (a + s)) m + f (a + m))
    rw [sm_add a m]
    omega
theorem sm_mono {f : Nat → Nat} {a b : Nat} (h : a ≤ b) : sm f a ≤ sm f b := by
  obtain ⟨c, rfl⟩ := Nat.exists_eq_add_of_le h
  rw [sm_add]
  omega
theorem sm_road {f : Nat → Nat} {r : Nat} (hr : r < 10) : sm (fun s => f (5 * r + s)) 5 ≤ sm f 50 := by
  have h1 := sm_add (f := f) (5 * r) 5
  have h2 := sm_mono (f := f) (a := 5 * r + 5) (b := 50) (by omega)
  omega
theorem cr_sum {s : Nat} : ∀ (w : List Nat) (l : Nat) (ps ly : Nat → Nat), (∀ r ∈ w, 5 * r + s < 50) → sm (cr N σ s w l ps ly).2.2 50 + (cr N σ s w l ps ly).1 = sm ly 50 + l
  | [], l, ps, ly, _ => rfl
  | r :: w, l, ps, ly, hw => by
    have h1 := fall_le l N σ r s
    have h2 := cr_sum (s := s) w (l - l * shock N σ r s / 100) (adN ps r l) (adN ly (5 * r + s) (l * shock N σ r s / 100)) (fun q hq => hw q (List.mem_cons_of_mem _ hq))
    rw [sm_ad, if_pos (hw r List.mem_cons_self)] at h2
    show sm (cr N σ s w _ _ _).2.2 50 + (cr N σ s w _ _ _).1 = _
    omega
theorem tf_sum {tr : Nat → Nat → Nat} {T : Nat} (hN : nOK N) (htr : trOK N T tr) : ∀ i, i ≤ T → sm (tf N σ tr i).2.1 50 ≤ 999 * i
  | 0, _ => by show sm (fun _ => 0) 50 ≤ 0; decide
  | i + 1, hi => by
    have ih := tf_sum hN htr i (by omega)
    have hr10 := hN.2.2.1
    have hS5 := hN.1
    obtain ⟨-, -, h2, h3, -, -⟩ := htr.2 i (by omega)
    show sm (t1 N σ tr i (tf N σ tr i)).2.1 50 ≤ _
    unfold t1
    split
    · have h4 := cr_sum (N := N) (σ := σ) (s := tr 2 i) (wy N (pv N σ (tr 3 i)) (tr 0 i) (tr 1 i)).1 (tr 3 i) (tf N σ tr i).1 (tf N σ tr i).2.1 (fun r hr => by have := (wy_un hr).2; omega)
      show sm (cr N σ (tr 2 i) _ _ _ _).2.2 50 ≤ _
      omega
    · show sm (tf N σ tr i).2.1 50 ≤ _
      omega
theorem rf_ly {kp : Nat} {y : YA} {sw : Option Nat} (hN : nOK N) : ∀ (i c : Nat), 5 * i ≤ c → (rf N σ kp y sw i).1 c = y.2.1 c
  | 0, c, _ => rfl
  | i + 1, c, hc => by
    have hS5 := hN.1
    show swp sw i (dpL (rf N σ kp y sw i).1 (σ 3) i (nS N)) c = _
    have h1 : dpL (rf N σ kp y sw i).1 (σ 3) i (nS N) c = y.2.1 c := by
      unfold dpL
      rw [if_neg (by omega)]
      exact rf_ly hN i c (by omega)
    unfold swp swL
    split
    · dsimp only
      rw [if_neg (by omega)]
      exact h1
    · exact h1
/-- what lies on a road when it is mended -/
theorem rf_now {kp : Nat} {y : YA} {sw : Option Nat} (hN : nOK N) {i c : Nat} (hc : 5 * i ≤ c) : swp sw i (dpL (rf N σ kp y sw i).1 (σ 3) i (nS N)) c ≤ y.2.1 c + σ 3 c := by
  have h1 : dpL (rf N σ kp y sw i).1 (σ 3) i (nS N) c ≤ y.2.1 c + σ 3 c := by
    unfold dpL
    rw [rf_ly hN i c hc]
    split <;> omega
  unfold swp swL
  split
  · dsimp only
    split <;> omega
  · exact h1
theorem rf_su {kp : Nat} {y : YA} {sw : Option Nat} (hN : nOK N) : ∀ i, (∀ c, (rf N σ kp y sw i).2.2.1 c ≤ σ 2 c + (y.2.1 c + σ 3 c)) ∧ (∀ c, 5 * i ≤ c → (rf N σ kp y sw i).2.2.1 c = σ 2 c) ∧ (∀ r s, nS N ≤ s → s < 5 → (rf N σ kp y sw i).2.2.1 (5 * r + s) = σ 2 (5 * r + s))
  | 0 => ⟨fun c => Nat.le_add_right _ _, fun c _ => rfl, fun r s _ _ => rfl⟩
  | i + 1 => by
    obtain ⟨h1, h2, h3⟩ := rf_su (kp := kp) (y := y) (sw := sw) hN i
    have hS5 := hN.1
    have e : ∀ c, (rf N σ kp y sw (i + 1)).2.2.1 c = if 5 * i ≤ c ∧ c < 5 * i + nS N then (rf N σ kp y sw i).2.2.1 c + swp sw i (dpL (rf N σ kp y sw i).1 (σ 3) i (nS N)) c else (rf N σ kp y sw i).2.2.1 c := fun c => rfl
    refine ⟨fun c => ?_, fun c hc => ?_, fun r s hs1 hs2 => ?_⟩
    · rw [e]
      by_cases hc : 5 * i ≤ c ∧ c < 5 * i + nS N
      · rw [if_pos hc, h2 c hc.1]
        have := rf_now (N := N) (σ := σ) (kp := kp) (y := y) (sw := sw) hN hc.1
        omega
      · rw [if_neg hc]; exact h1 c
    · rw [e, if_neg (by omega)]; exact h2 c (by omega)
    · rw [e, if_neg (by omega)]; exact h3 r s hs1 hs2
theorem rf_ho {kp : Nat} {y : YA} {sw : Option Nat} (r : Nat) : ∀ i, (rf N σ kp y sw i).2.2.2.1 r ≤ σ 1 r + y.1 r / 10
  | 0 => Nat.le_add_right _ _
  | i + 1 => by
    show upN (rf N σ kp y sw i).2.2.2.1 i _ r ≤ _
    unfold upN
    split
    · rename_i e
      subst e
      exact mh_le _ _ _ _
    · exact rf_ho r i
/-- the numbers of a state: holes up to b, years up to y -/
def Bd (N : Nt) (σ : Sd) (b y : Nat) : Prop := (∀ r, r < 10 → σ 1 r ≤ b) ∧ (∀ r, r < 10 → sm (fun s => σ 2 (5 * r + s)) 5 ≤ 6984 * σ 0 0) ∧ (∀ r s, r < 10 → nS N ≤ s → s < 5 → σ 2 (5 * r + s) = 0) ∧ (∀ c, σ 3 c ≤ 198) ∧ σ 0 0 ≤ y
theorem Bd.ok {b y : Nat} (hb : b < 100000) (hy : y ≤ 28000) (a : Bd N σ b y) : sOK N σ := by
  obtain ⟨a1, a2, a3, -, a5⟩ := a
  exact ⟨fun r hr => by have := a1 r hr; omega, fun r hr => by have := a2 r hr; omega, a3⟩
theorem sm_le2 {f g : Nat → Nat} : ∀ {n : Nat}, (∀ k, k < n → f k ≤ g k) → sm f n ≤ sm g n
  | 0, _ => Nat.le_refl _
  | n + 1, h => Nat.add_le_add (sm_le2 (fun k hk => h k (by omega))) (h n (by omega))
theorem sm_plus {f g : Nat → Nat} : ∀ n, sm (fun k => f k + g k) n = sm f n + sm g n
  | 0 => rfl
  | n + 1 => by
    show sm (fun k => f k + g k) n + (f n + g n) = sm f n + f n + (sm g n + g n)
    rw [sm_plus n]
    omega
theorem Bd.year {b y kp T : Nat} {tr : Nat → Nat → Nat} {sw : Option Nat} (hN : nOK N) (htr : trOK N T tr) (hb : 5300 ≤ b) (a : Bd N σ b y) : Bd N (yS N σ kp tr T sw) b (y + 1) := by
  obtain ⟨a1, a2, a3, a4, a5⟩ := a
  have hT6 := htr.1
  have htl := tf_le (N := N) (σ := σ) T (fun t ht => (htr.2 t ht).2.2.2.1)
  have hsu := rf_su (N := N) (σ := σ) (kp := kp) (y := tf N σ tr T) (sw := sw) hN (nR N)
  refine ⟨fun r hr => ?_, fun r hr => ?_, fun r s hr hs1 hs2 => ?_, a4, Nat.succ_le_succ a5⟩
  · show (rf N σ kp (tf N σ tr T) sw (nR N)).2.2.2.1 r ≤ b
    have h1 := rf_ho (N := N) (σ := σ) (kp := kp) (y := tf N σ tr T) (sw := sw) r (nR N)
    have h2 := (htl r).1
    have h3 := a1 r hr
    have h4 : 6993 * T ≤ 6993 * 6 := Nat.mul_le_mul_left _ hT6
    by_cases hw : 1000 ≤ σ 1 r
    · rw [tf_worn hw] at h1
      omega
    · omega
  · show sm (fun s => (rf N σ kp (tf N σ tr T) sw (nR N)).2.2.1 (5 * r + s)) 5 ≤ 6984 * (σ 0 0 + 1)
    have h1 := sm_le2 (n := 5) (fun s _ => hsu.1 (5 * r + s))
    rw [sm_plus, sm_plus] at h1
    have h2 := a2 r hr
    have h3 := sm_road (f := (tf N σ tr T).2.1) hr
    have h4 := tf_sum (N := N) (σ := σ) hN htr T (Nat.le_refl _)
    have h5 : sm (fun s => σ 3 (5 * r + s)) 5 ≤ 5 * 198 := sm_le (fun s _ => a4 _)
    have h6 : 999 * T ≤ 999 * 6 := Nat.mul_le_mul_left _ hT6
    rw [Nat.mul_succ]
    omega
  · show (rf N σ kp (tf N σ tr T) sw (nR N)).2.2.1 (5 * r + s) = 0
    rw [hsu.2.2 r s hs1 hs2]
    exact a3 r s hr hs1 hs2
end BD
