section NT
variable {G : ax_G} {d : Nat} {h : ax_H} {Q : ax_O → ax_H → Prop} {N : Nt} {σ : Sd}
theorem flN_lt {w c v : Nat} {L : LD} (hl : L.1.length < 1003) (hv : L.2.1 v < L.2.2.1 v ∨ v = w) (hle : ∀ v, v < 3 → L.2.2.1 v ≤ L.1.length) (hv3 : v < 3) : (flN w c L).2.1 v < (flN w c L).2.2.1 v ∧ (flN w c L).2.2.1 v ≤ (flN w c L).1.length ∧ (flN w c L).1.length ≤ L.1.length + 1 := by
  unfold flN
  by_cases hz : L.2.1 w < L.2.2.1 w
  · rw [if_pos hz]
    refine ⟨?_, hle v hv3, by omega⟩
    rcases hv with q | rfl
    · exact q
    · exact hz
  · rw [if_neg hz]
    have e : (if L.1.length < 1003 then L.1 ++ [c] else L.1).length = L.1.length + 1 := by rw [if_pos hl, List.length_append]; rfl
    show upN L.2.1 w L.1.length v < upN L.2.2.1 w (if L.1.length < 1003 then L.1 ++ [c] else L.1).length v ∧ upN L.2.2.1 w (if L.1.length < 1003 then L.1 ++ [c] else L.1).length v ≤ (if L.1.length < 1003 then L.1 ++ [c] else L.1).length ∧ (if L.1.length < 1003 then L.1 ++ [c] else L.1).length ≤ L.1.length + 1
    rw [e]
    unfold upN
    by_cases hvw : v = w
    · rw [if_pos hvw, if_pos hvw]; omega
    · rw [if_neg hvw, if_neg hvw]
      have := hle v hv3
      rcases hv with q | q
      · omega
      · exact absurd q hvw
/-- laws that lie within the codes, and few enough of them -/
def lOK (L : LD) : Prop := L.1.length ≤ 1000 ∧ ∀ v, v < 3 → L.2.2.1 v ≤ L.1.length
theorem flA3_ok {L : LD} (a : lOK L) : (flA3 L).1.length ≤ 1003 ∧ ∀ v, v < 3 → (flA3 L).2.1 v < (flA3 L).2.2.1 v ∧ (flA3 L).2.2.1 v ≤ (flA3 L).1.length := by
  obtain ⟨a1, a2⟩ := a
  have s1 := fun v hv => flN_lt (w := 0) (c := 0) (v := v) (L := L) (by omega) hv a2
  have l1 : (flN 0 0 L).1.length ≤ L.1.length + 1 := (s1 0 (Or.inr rfl) (by omega)).2.2
  have le1 : ∀ v, v < 3 → (flN 0 0 L).2.2.1 v ≤ (flN 0 0 L).1.length := fun v hv => by
    by_cases hz : v = 0
    · exact (s1 v (Or.inr hz) hv).2.1
    · by_cases hy : L.2.1 v < L.2.2.1 v
      · exact (s1 v (Or.inl hy) hv).2.1
      · unfold flN
        split
        · exact a2 v hv
        · show upN L.2.2.1 0 _ v ≤ (if L.1.length < 1003 then L.1 ++ [0] else L.1).length
          unfold upN
          rw [if_neg hz]
          have := a2 v hv
          split
          · rw [List.length_append]; omega
          · exact this
  have s2 := fun v hv => flN_lt (w := 1) (c := 1) (v := v) (L := flN 0 0 L) (by omega) hv le1
  have l2 : (flN 1 1 (flN 0 0 L)).1.length ≤ (flN 0 0 L).1.length + 1 := (s2 1 (Or.inr rfl) (by omega)).2.2
  have le2 : ∀ v, v < 3 → (flN 1 1 (flN 0 0 L)).2.2.1 v ≤ (flN 1 1 (flN 0 0 L)).1.length := fun v hv => by
    by_cases hz : v = 1
    · exact (s2 v (Or.inr hz) hv).2.1
    · unfold flN
      by_cases hy : (flN 0 0 L).2.1 1 < (flN 0 0 L).2.2.1 1
      · have e : flN 1 1 (flN 0 0 L) = flN 0 0 L := if_pos hy
        show (flN 1 1 (flN 0 0 L)).2.2.1 v ≤ (flN 1 1 (flN 0 0 L)).1.length
        rw [e]
        exact le1 v hv
      · have e : flN 1 1 (flN 0 0 L) = ((if (flN 0 0 L).1.length < 1003 then (flN 0 0 L).1 ++ [1] else (flN 0 0 L).1), upN (flN 0 0 L).2.1 1 (flN 0 0 L).1.length, upN (flN 0 0 L).2.2.1 1 (if (flN 0 0 L).1.length < 1003 then (flN 0 0 L).1 ++ [1] else (flN 0 0 L).1).length, hlN (flN 0 0 L).2.2.2 1) := if_neg hy
        show (flN 1 1 (flN 0 0 L)).2.2.1 v ≤ (flN 1 1 (flN 0 0 L)).1.length
        rw [e]
        show upN (flN 0 0 L).2.2.1 1 _ v ≤ (if (flN 0 0 L).1.length < 1003 then (flN 0 0 L).1 ++ [1] else (flN 0 0 L).1).length
        unfold upN
        rw [if_neg hz]
        have := le1 v hv
        split
        · rw [List.length_append]; omega
        · exact this
  have h0 := (s1 0 (Or.inr rfl) (by omega)).1
  have h1 := (s2 0 (Or.inl h0) (by omega)).1
  have h2 := (s2 1 (Or.inr rfl) (by omega)).1
  have s3 := fun v hv => flN_lt (w := 2) (c := 7) (v := v) (L := flN 1 1 (flN 0 0 L)) (by omega) hv le2
  refine ⟨?_, fun v hv => ?_⟩
  · have := (s3 2 (Or.inr rfl) (by omega)).2.2
    show (flN 2 7 _).1.length ≤ 1003
    omega
  · have key : ∀ (hh : (flN 1 1 (flN 0 0 L)).2.1 v < (flN 1 1 (flN 0 0 L)).2.2.1 v ∨ v = 2), (flA3 L).2.1 v < (flA3 L).2.2.1 v ∧ (flA3 L).2.2.1 v ≤ (flA3 L).1.length := fun hh => ⟨(s3 v hh hv).1, (s3 v hh hv).2.1⟩
    rcases lt3 hv with rfl | rfl | rfl
    · exact key (Or.inl h1)
    · exact key (Or.inl h2)
    · exact key (Or.inr rfl)
end NT
