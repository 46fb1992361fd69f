/-! ===== a year, place by place (pure) ===== -/
section YP
variable {N : Nt} {σ : Sd} {kp T : Nat} {tr : Nat → Nat → Nat} {sw : Option Nat} {y : YA}
theorem mh_cg {ly ly' : Nat → Nat} {r H : Nat} : ∀ n, (∀ s, s < n → ly (5 * r + s) = ly' (5 * r + s)) → mh N σ ly r H n = mh N σ ly' r H n
  | 0, _ => rfl
  | n + 1, h => by
    show mh N σ ly r H n - mend N σ r n (ly (5 * r + n)) * ly (5 * r + n) = mh N σ ly' r H n - mend N σ r n (ly' (5 * r + n)) * ly' (5 * r + n)
    rw [mh_cg n (fun s hs => h s (by omega)), h n (by omega)]
theorem mh_0 {ly : Nat → Nat} {r H : Nat} : ∀ n, (∀ s, s < n → ly (5 * r + s) = 0) → mh N σ ly r H n = H
  | 0, _ => rfl
  | n + 1, h => by
    show mh N σ ly r H n - mend N σ r n (ly (5 * r + n)) * ly (5 * r + n) = H
    rw [mh_0 n (fun s hs => h s (by omega)), h n (by omega), Nat.mul_zero, Nat.sub_zero]
/-- what lies on a road when it is mended -/
def lfN (σ : Sd) (y : YA) : Nat → Nat := fun c => y.2.1 c + σ 3 c
def lwN (σ : Sd) (y : YA) (sw : Option Nat) (r s : Nat) : Nat := if sw = some r then 0 else lfN σ y (5 * r + s)
theorem now_at (hN : nOK N) {r s : Nat} (hs : s < nS N) : swp sw r (dpL (rf N σ kp y sw r).1 (σ 3) r (nS N)) (5 * r + s) = lwN σ y sw r s := by
  have := hN.1
  unfold swp lwN
  by_cases h : sw = some r
  · rw [if_pos h, if_pos h]
    exact if_pos ⟨by omega, by omega⟩
  · rw [if_neg h, if_neg h]
    unfold dpL
    rw [if_pos ⟨by omega, by omega⟩, rf_ly hN r (5 * r + s) (by omega)]
    rfl
theorem rf_h2 (hN : nOK N) : ∀ (i r : Nat), r < i → (rf N σ kp y sw i).2.2.2.1 r = mdV N σ sw (lfN σ y) y.1 r
  | 0, r, h => absurd h (Nat.not_lt_zero _)
  | i + 1, r, h => by
    show upN (rf N σ kp y sw i).2.2.2.1 i (mh N σ (swp sw i (dpL (rf N σ kp y sw i).1 (σ 3) i (nS N))) i (σ 1 i + y.1 i / 10) (nS N)) r = _
    rw [upN_at]
    by_cases hri : r = i
    · rw [if_pos hri, hri]
      unfold mdV
      by_cases hs : sw = some i
      · rw [if_pos hs]
        exact mh_0 _ (fun s h2 => by rw [now_at hN h2]; unfold lwN; rw [if_pos hs])
      · rw [if_neg hs]
        exact mh_cg _ (fun s h2 => by rw [now_at hN h2]; unfold lwN; rw [if_neg hs])
    · rw [if_neg hri]
      exact rf_h2 hN i r (by omega)
theorem rf_s2 (hN : nOK N) : ∀ (i r s : Nat), s < 5 → (rf N σ kp y sw i).2.2.1 (5 * r + s) = if r < i ∧ s < nS N then σ 2 (5 * r + s) + lwN σ y sw r s else σ 2 (5 * r + s)
  | 0, r, s, _ => by rw [if_neg (fun q => absurd q.1 (Nat.not_lt_zero _))]; rfl
  | i + 1, r, s, hs => by
    have := hN.1
    have ih := rf_s2 hN i r s hs
    show dpL (rf N σ kp y sw i).2.2.1 (swp sw i (dpL (rf N σ kp y sw i).1 (σ 3) i (nS N))) i (nS N) (5 * r + s) = _
    unfold dpL
    by_cases hc : 5 * i ≤ 5 * r + s ∧ 5 * r + s < 5 * i + nS N
    · have hri : r = i := by omega
      rw [if_pos hc, ih, if_neg (by omega), if_pos ⟨by omega, by omega⟩, hri]
      have := now_at (σ := σ) (kp := kp) (y := y) (sw := sw) hN (r := i) (s := s) (by omega)
      unfold dpL at this
      rw [this]
    · rw [if_neg hc, ih]
      by_cases h1 : r < i ∧ s < nS N
      · rw [if_pos h1, if_pos ⟨by omega, h1.2⟩]
      · rw [if_neg h1, if_neg (by omega)]
theorem rf_f2 : ∀ (i s : Nat), (rf N σ kp y sw i).2.1 s = if s < nS N then y.2.2.1 s + sm (fun r => σ 3 (5 * r + s)) i else y.2.2.1 s
  | 0, s => by
    show y.2.2.1 s = _
    split
    · show _ = y.2.2.1 s + 0
      omega
    · rfl
  | i + 1, s => by
    have ih := rf_f2 i s
    show dpF (rf N σ kp y sw i).2.1 (σ 3) i (nS N) s = _
    unfold dpF
    by_cases h : s < nS N
    · rw [if_pos h, ih, if_pos h, if_pos h]
      show _ = y.2.2.1 s + (sm (fun r => σ 3 (5 * r + s)) i + σ 3 (5 * i + s))
      omega
    · rw [if_neg h, ih, if_neg h, if_neg h]
theorem rf_l2 (hN : nOK N) : ∀ (i z r s : Nat), i ≤ 10 → r < 10 → s < nS N → (rf N σ kp y sw i).2.2.2.2 (50 * z + (5 * r + s)) = if z = σ 0 0 ∧ σ 0 0 < kp ∧ r < i then lwN σ y sw r s else σ 8 (50 * z + (5 * r + s))
  | 0, z, r, s, _, _, _ => by rw [if_neg (fun q => absurd q.2.2 (Nat.not_lt_zero _))]; rfl
  | i + 1, z, r, s, hi, hr, hs => by
    have := hN.1
    have ih := rf_l2 hN i z r s (by omega) hr hs
    show lyN (rf N σ kp y sw i).2.2.2.2 (swp sw i (dpL (rf N σ kp y sw i).1 (σ 3) i (nS N))) (σ 0 0) i kp (nS N) (50 * z + (5 * r + s)) = _
    unfold lyN
    by_cases hc : σ 0 0 < kp ∧ 50 * σ 0 0 + 5 * i ≤ 50 * z + (5 * r + s) ∧ 50 * z + (5 * r + s) < 50 * σ 0 0 + 5 * i + nS N
    · have hz : z = σ 0 0 := by omega
      have hri : r = i := by omega
      rw [if_pos hc, if_pos ⟨hz, hc.1, by omega⟩, hri, show 50 * z + (5 * i + s) - 50 * σ 0 0 = 5 * i + s by omega]
      exact now_at hN hs
    · rw [if_neg hc, ih]
      by_cases h1 : z = σ 0 0 ∧ σ 0 0 < kp ∧ r < i
      · rw [if_pos h1, if_pos ⟨h1.1, h1.2.1, by omega⟩]
      · rw [if_neg h1, if_neg (by omega)]
/-- of each stuff so much fell as lies -/
theorem cr_fell {s : Nat} (hs : s < 5) : ∀ (w : List Nat) (l : Nat) (ps ly : Nat → Nat) (q n : Nat), q < 5 → (∀ r ∈ w, r < n) → sm (fun r => (cr N σ s w l ps ly).2.2 (5 * r + q)) n + (if q = s then (cr N σ s w l ps ly).1 else 0) = sm (fun r => ly (5 * r + q)) n + (if q = s then l else 0)
  | [], l, ps, ly, q, n, _, _ => rfl
  | r :: w, l, ps, ly, q, n, hq, hw => by
    have hr := hw r List.mem_cons_self
    have ih := cr_fell hs w (l - l * shock N σ r s / 100) (adN ps r l) (adN ly (5 * r + s) (l * shock N σ r s / 100)) q n hq (fun r' h' => hw r' (List.mem_cons_of_mem _ h'))
    have hfa := fall_le l N σ r s
    show sm (fun r' => (cr N σ s w (l - l * shock N σ r s / 100) (adN ps r l) (adN ly (5 * r + s) (l * shock N σ r s / 100))).2.2 (5 * r' + q)) n + (if q = s then (cr N σ s w (l - l * shock N σ r s / 100) (adN ps r l) (adN ly (5 * r + s) (l * shock N σ r s / 100))).1 else 0) = _
    rw [ih]
    by_cases hqs : q = s
    · rw [if_pos hqs, if_pos hqs]
      have e : sm (fun r' => adN ly (5 * r + s) (l * shock N σ r s / 100) (5 * r' + q)) n = sm (adN (fun r' => ly (5 * r' + q)) r (l * shock N σ r s / 100)) n := sm_cong (fun r' _ => by
        unfold adN
        by_cases h : r' = r
        · rw [if_pos (by omega), if_pos h, hqs]
        · rw [if_neg (by omega), if_neg h])
      rw [e, sm_ad, if_pos hr]
      omega
    · rw [if_neg hqs, if_neg hqs]
      have e : sm (fun r' => adN ly (5 * r + s) (l * shock N σ r s / 100) (5 * r' + q)) n = sm (fun r' => ly (5 * r' + q)) n := sm_cong (fun r' _ => by
        unfold adN
        rw [if_neg (by omega)])
      rw [e]
theorem tf_fell (hN : nOK N) (htr : trOK N T tr) : ∀ i, i ≤ T → ∀ s, s < 5 → (tf N σ tr i).2.2.1 s = σ 4 s + sm (fun r => (tf N σ tr i).2.1 (5 * r + s)) (nR N)
  | 0, _, s, _ => by
    show σ 4 s = σ 4 s + sm (fun _ => 0) (nR N)
    have : ∀ n, sm (fun _ => 0) n = 0 := fun n => by
      induction n with
      | zero => rfl
      | succ n ih => show sm (fun _ => 0) n + 0 = 0; omega
    rw [this]
    rfl
  | i + 1, hi, s, hs => by
    have ih := tf_fell hN htr i (by omega) s hs
    have hti := htr.2 i (by omega)
    have hS5 := hN.1
    show (t1 N σ tr i (tf N σ tr i)).2.2.1 s = σ 4 s + sm (fun r => (t1 N σ tr i (tf N σ tr i)).2.1 (5 * r + s)) (nR N)
    unfold t1
    by_cases hc : (wy N (pv N σ (tr 3 i)) (tr 0 i) (tr 1 i)).2 = some (tr 1 i)
    · rw [if_pos hc]
      have hcr := cr_fell (N := N) (σ := σ) (s := tr 2 i) (by omega) (wy N (pv N σ (tr 3 i)) (tr 0 i) (tr 1 i)).1 (tr 3 i) (tf N σ tr i).1 (tf N σ tr i).2.1 s (nR N) hs (fun r hr => (wy_un hr).2)
      have hle := cr_le (N := N) (σ := σ) (s := tr 2 i) (wy N (pv N σ (tr 3 i)) (tr 0 i) (tr 1 i)).1 (tr 3 i) (tf N σ tr i).1 (tf N σ tr i).2.1
      show adN (tf N σ tr i).2.2.1 (tr 2 i) _ s = σ 4 s + sm (fun r => (cr N σ (tr 2 i) (wy N (pv N σ (tr 3 i)) (tr 0 i) (tr 1 i)).1 (tr 3 i) (tf N σ tr i).1 (tf N σ tr i).2.1).2.2 (5 * r + s)) (nR N)
      unfold adN
      by_cases hq : s = tr 2 i
      · rw [if_pos hq, if_pos hq] at hcr
        rw [if_pos hq, ← hq, ih]
        rw [← hq] at hcr hle
        omega
      · rw [if_neg hq, if_neg hq] at hcr
        rw [if_neg hq, ih]
        omega
    · rw [if_neg hc]
      exact ih
/-- the year's numbers -/
theorem yS_0 : yS N σ kp tr T sw 0 0 = σ 0 0 + 1 := rfl
theorem yS_1 (hN : nOK N) {r : Nat} (hr : r < nR N) : yS N σ kp tr T sw 1 r = mdV N σ sw (lfN σ (tf N σ tr T)) (tf N σ tr T).1 r := rf_h2 hN (nR N) r hr
theorem yS_2 (hN : nOK N) {r s : Nat} (hs : s < 5) : yS N σ kp tr T sw 2 (5 * r + s) = if r < nR N ∧ s < nS N then σ 2 (5 * r + s) + lwN σ (tf N σ tr T) sw r s else σ 2 (5 * r + s) := rf_s2 hN (nR N) r s hs
theorem yS_3 (c : Nat) : yS N σ kp tr T sw 3 c = σ 3 c := rfl
theorem yS_4 (hN : nOK N) (htr : trOK N T tr) {s : Nat} (hs : s < 5) : yS N σ kp tr T sw 4 s = if s < nS N then σ 4 s + sm (fun r => lfN σ (tf N σ tr T) (5 * r + s)) (nR N) else σ 4 s + sm (fun r => (tf N σ tr T).2.1 (5 * r + s)) (nR N) := by
  show (rf N σ kp (tf N σ tr T) sw (nR N)).2.1 s = _
  rw [rf_f2, tf_fell hN htr T (Nat.le_refl _) s hs]
  split
  · rw [show sm (fun r => lfN σ (tf N σ tr T) (5 * r + s)) (nR N) = sm (fun r => (tf N σ tr T).2.1 (5 * r + s) + σ 3 (5 * r + s)) (nR N) from rfl, sm_plus]
    omega
  · rfl
theorem yS_8 (hN : nOK N) {z r s : Nat} (hr : r < nR N) (hs : s < nS N) : yS N σ kp tr T sw 8 (50 * z + (5 * r + s)) = if z = σ 0 0 ∧ σ 0 0 < kp then lwN σ (tf N σ tr T) sw r s else σ 8 (50 * z + (5 * r + s)) := by
  have := hN.2.2.1
  show (rf N σ kp (tf N σ tr T) sw (nR N)).2.2.2.2 (50 * z + (5 * r + s)) = _
  rw [rf_l2 hN (nR N) z r s this (by omega) hs]
  by_cases h : z = σ 0 0 ∧ σ 0 0 < kp
  · rw [if_pos ⟨h.1, h.2, hr⟩, if_pos h]
  · rw [if_neg (fun q => h ⟨q.1, q.2.1⟩), if_neg h]
end YP
