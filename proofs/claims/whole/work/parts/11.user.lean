/-! ===== AM: the forms in which methods are walked ===== -/
section AMU
variable {G : ax_G} {d : Nat} {M : ax_M} {pc : Nat} {lv : List (Option Value)} {st : List Value} {h : ax_H} {Q : ax_O → ax_H → Prop}
theorem ax_wr_eq {k : Nat} {e : ax_E} : (ax_wr h k e).2.2 k = some e := by simp [ax_wr]
theorem ax_wr_ne {j k : Nat} {e : ax_E} (hn : j ≠ k) : (ax_wr h k e).2.2 j = h.2.2 j := by simp [ax_wr, hn]
theorem ax_wr_wr {k : Nat} {e e' : ax_E} : ax_wr (ax_wr h k e) k e' = ax_wr h k e' := by
  unfold ax_wr
  refine Prod.ext rfl (Prod.ext rfl (funext fun j => ?_))
  by_cases hj : j = k <;> simp [hj]
theorem ax_wr_cm {j k : Nat} {e e' : ax_E} (hn : j ≠ k) : ax_wr (ax_wr h j e) k e' = ax_wr (ax_wr h k e') j e := by
  unfold ax_wr
  refine Prod.ext rfl (Prod.ext rfl (funext fun i => ?_))
  by_cases hi : i = j
  · subst hi
    simp [hn]
  · by_cases hk : i = k
    · subst hk
      simp [hi]
    · simp [hi, hk]
theorem ax_wr_id {k : Nat} {e : ax_E} (he : h.2.2 k = some e) : ax_wr h k e = h := by
  unfold ax_wr
  refine Prod.ext rfl (Prod.ext rfl (funext fun j => ?_))
  by_cases hj : j = k
  · simp [hj, he]
  · simp [hj]
theorem ax_al_eq {sz : Nat} {e : ax_E} : (ax_al h sz e).2.2 h.1 = some e := by simp [ax_al]
theorem ax_al_ne {j sz : Nat} {e : ax_E} (hn : j ≠ h.1) : (ax_al h sz e).2.2 j = h.2.2 j := by simp [ax_al, hn]
theorem ax_topi {x y : Int32} (e : x = y) (kk : X G d M pc lv (.int y :: st) h Q) : X G d M pc lv (.int x :: st) h Q := by rw [e]; exact kk
theorem ax_topl {x y : Int64} (e : x = y) (kk : X G d M pc lv (.long y :: st) h Q) : X G d M pc lv (.long x :: st) h Q := by rw [e]; exact kk
theorem ax_hp {h1 : ax_H} (e : h = h1) (kk : X G d M pc lv st h1 Q) : X G d M pc lv st h Q := by rw [e]; exact kk
/-- behind a call -/
def ax_K (G : ax_G) (d : Nat) (M : ax_M) (pc : Nat) (lv : List (Option Value)) (rest : List Value) (Q : ax_O → ax_H → Prop) : ax_O → ax_H → Prop := fun o h1 => ∃ r, o = .inl r ∧ X G d M (pc + 3) lv (r.toList ++ rest) h1 Q
theorem ax_cV {M' : ax_M} {d' n idx r : Nat} {As rest : List Value} {Cn : String} (hd : decode M.2.1 pc = .ok (.invokevirtual idx, 3)) (hm : ax_m M' n) (w1 : ax_g (.methodLink M.1.cls idx M'.1)) (w2 : ax_g (.instanceMethod M'.1)) (w3 : ax_g (.selects Cn M'.1 M'.1)) (hrec : ax_recv ax_old G h r Cn) (hn : As.length = n) (hst : st = As.reverse ++ .ref r :: rest) (hrw : ax_sz rest ≤ 8) (hf : ax_sz (.ref r :: As) ≤ M'.2.2.1) (hdd : d = d' + 1) (hlen : lv.length = M.2.2.1)
    (k : X G d' M' 0 (ax_in M'.2.2.1 (.ref r :: As)) [] h (ax_K G d M pc lv rest Q)) : X G d M pc lv st h Q := ax_callV hd hm w1 w2 w3 hrec hn hst hrw hf hdd hlen _ k (fun _ _ q => q)
theorem ax_cS {M' : ax_M} {d' n idx : Nat} {As rest : List Value} (hd : decode M.2.1 pc = .ok (.invokestatic idx, 3)) (hm : ax_m M' n) (w1 : ax_g (.methodLink M.1.cls idx M'.1)) (w2 : ax_g (.static M'.1)) (hn : As.length = n) (hst : st = As.reverse ++ rest) (hrw : ax_sz rest ≤ 8) (hf : ax_sz As ≤ M'.2.2.1) (hdd : d = d' + 1) (hlen : lv.length = M.2.2.1)
    (k : X G d' M' 0 (ax_in M'.2.2.1 As) [] h (ax_K G d M pc lv rest Q)) : X G d M pc lv st h Q := ax_callS hd hm w1 w2 hn hst hrw hf hdd hlen _ k (fun _ _ q => q)
theorem ax_cSN {M' : ax_M} {d' n idx : Nat} {As rest : List Value} {host : String} (hd : decode M.2.1 pc = .ok (.invokestatic idx, 3)) (hm : ax_m M' n) (w1 : (.methodLinkNest M.1.cls idx M'.1 host) ∈ lw_tbl) (w2 : ax_g (.static M'.1)) (hn : As.length = n) (hst : st = As.reverse ++ rest) (hrw : ax_sz rest ≤ 8) (hf : ax_sz As ≤ M'.2.2.1) (hdd : d = d' + 1) (hlen : lv.length = M.2.2.1)
    (k : X G d' M' 0 (ax_in M'.2.2.1 As) [] h (ax_K G d M pc lv rest Q)) : X G d M pc lv st h Q := ax_callSN hd hm w1 w2 hn hst hrw hf hdd hlen _ k (fun _ _ q => q)
theorem ax_cI {M' : ax_M} {d' n idx r : Nat} {As rest : List Value} (hd : decode M.2.1 pc = .ok (.invokespecial idx, 3)) (hm : ax_m M' n) (w1 : ax_g (.methodLink M.1.cls idx M'.1)) (w2 : ax_g (.instanceMethod M'.1)) (hy : M'.1.name = "<init>") (hret : M'.2.2.2 = none) (hn : As.length = n) (hst : st = As.reverse ++ .ref r :: rest) (hrw : ax_sz rest ≤ 8) (hf : ax_sz (.ref r :: As) ≤ M'.2.2.1) (hdd : d = d' + 1) (hlen : lv.length = M.2.2.1)
    (k : X G d' M' 0 (ax_in M'.2.2.1 (.ref r :: As)) [] h (ax_K G d M pc lv rest Q)) : X G d M pc lv st h Q := ax_callI hd hm w1 w2 hy hret hn hst hrw hf hdd hlen _ k (fun _ _ q => q)
theorem ax_cIN {M' : ax_M} {d' n idx r : Nat} {As rest : List Value} {host : String} (hd : decode M.2.1 pc = .ok (.invokespecial idx, 3)) (hm : ax_m M' n) (w1 : (.methodLinkNest M.1.cls idx M'.1 host) ∈ lw_tbl) (w2 : ax_g (.instanceMethod M'.1)) (hy : M'.1.name = "<init>") (hret : M'.2.2.2 = none) (hn : As.length = n) (hst : st = As.reverse ++ .ref r :: rest) (hrw : ax_sz rest ≤ 8) (hf : ax_sz (.ref r :: As) ≤ M'.2.2.1) (hdd : d = d' + 1) (hlen : lv.length = M.2.2.1)
    (k : X G d' M' 0 (ax_in M'.2.2.1 (.ref r :: As)) [] h (ax_K G d M pc lv rest Q)) : X G d M pc lv st h Q := ax_callIN hd hm w1 w2 hy hret hn hst hrw hf hdd hlen _ k (fun _ _ q => q)
end AMU
