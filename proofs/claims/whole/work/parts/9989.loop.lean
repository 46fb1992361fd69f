/-! ===== the law's start and its loop ===== -/
section LOP
variable {G : ax_G} {d i : Nat} {h : ax_H} {Q : ax_O → ax_H → Prop} {o5 o6 : Option Value}
abbrev N0 : Nt := (fun _ _ => 0, fun _ => [])
abbrev z0 : Sd := fun i _ => if i = 5 then 1 else 0
abbrev D0 : DD := (N0, fun _ => 0, fun _ => 0, fun _ => 0)
theorem N0_ok : nOK N0 := ⟨by decide, by decide, by decide, by decide, fun _ _ => ⟨Nat.zero_le _, Nat.zero_le _⟩, fun r z => absurd z (Nat.not_lt_zero _), fun r z => absurd z (Nat.not_lt_zero _), fun z => absurd z (Nat.not_lt_zero _), fun c z => absurd z List.not_mem_nil, fun c z => absurd z List.not_mem_nil, fun c z => absurd z List.not_mem_nil⟩
theorem z0_ok {y : Nat} : SI N0 z0 y := by
  refine ⟨⟨fun r _ => Nat.zero_le _, fun r _ => ?_, fun _ _ _ _ _ => rfl, fun c => Nat.zero_le _, Nat.zero_le _⟩, fun c => Nat.zero_le _, fun _ _ => Nat.zero_le _, fun _ _ => rfl⟩
  exact Nat.le_trans (Nat.le_of_eq (sm_zero 5 (fun _ _ => rfl))) (Nat.zero_le _)
theorem HL_use {q S : Nat} {L : List ax_E} {o : Option Value} (k : ∀ h', h'.1 = q + L.length → h'.2.1 = S → (∀ i e, L[i]? = some e → h'.2.2 (q + i) = some e) → (∀ j, j < q ∨ q + L.length ≤ j → h'.2.2 j = h.2.2 j) → Q (.inl o) h') : Q (.inl o) (HL h q S L) := k _ rfl rfl (fun _ _ z => HL_at z) (fun j z => z.elim (fun y => HL_lt y) (fun y => HL_ge y))
theorem i_C {s : Nat} {g : Nat → Option ax_E} (hq : ∀ h', h'.1 = 145 → h'.2.1 ≤ s + 20000 → Cs h' N0 z0 → h'.2.2 129 = some (eQ 4 (fun _ => none)) → h'.2.2 130 = some (eZ 4 (fun _ => 0)) → CN h' [] → (∀ j, 145 ≤ j → h'.2.2 j = g j) → Q (.inl none) h') : X G (d + 3) mX11_init 0 (ax_in 1 [.ref 64]) [] (HL (64, s, g) 64 (s + 14) [.inr (9, [.null, .null, .null, .null, .null, .null, .null, .null, .null, .null, .null, .null, .null, .long 0])]) Q := by
  refine i_X11 (h := (64, s, g)) (HL_use (fun h' e1 e2 at' old => ?_))
  have vac : ∀ {p : Nat → Prop} (j : Nat), j < 0 → p j := fun j z => absurd z (Nat.not_lt_zero _)
  have hL : Land h' N0 := ⟨⟨0, 0, at' 25 _ rfl, Or.inl rfl, fun _ => List.not_mem_nil⟩, ⟨_, at' 28 _ rfl, fun _ _ => rfl⟩, ⟨_, at' 29 _ rfl, fun _ _ => rfl⟩, ⟨_, at' 30 _ rfl, fun _ _ => rfl⟩, ⟨_, at' 31 _ rfl, fun _ _ => rfl⟩, ⟨_, at' 32 _ rfl, fun _ _ => rfl⟩, at' 34 _ rfl, ⟨_, at' 35 _ rfl, fun _ _ => rfl⟩, ⟨_, at' 36 _ rfl, fun _ _ => rfl⟩, ⟨_, at' 37 _ rfl, fun _ _ => rfl⟩, ⟨_, at' 38 _ rfl, fun _ _ => rfl⟩, ⟨_, _, _, at' 39 _ rfl, at' 40 _ rfl, at' 41 _ rfl, fun l _ => ⟨0, fun j z => absurd z (Nat.not_lt_zero _), rfl, rfl, Nat.zero_le _⟩⟩⟩
  have hS : StIs h' 106 40 N0 z0 := ⟨at' 42 _ rfl, ⟨_, at' 43 _ rfl, fun _ _ => rfl⟩, ⟨_, at' 44 _ rfl, fun _ _ => rfl⟩, ⟨_, at' 45 _ rfl, fun _ _ => rfl⟩, ⟨_, at' 46 _ rfl, fun _ _ => rfl⟩, ⟨_, at' 47 _ rfl, fun _ _ => (show (0 : Int32) = nI 1 - nI 1 from by decide)⟩, ⟨_, at' 48 _ rfl, fun _ _ => rfl⟩, ⟨_, at' 49 _ rfl, fun _ _ => rfl⟩, ⟨_, at' 50 _ rfl, fun y r s z => absurd z (Nat.not_lt_zero _)⟩⟩
  have hA : anSt h' 115 0 := ⟨⟨_, at' 51 _ rfl⟩, ⟨_, at' 52 _ rfl⟩, ⟨_, at' 53 _ rfl⟩, ⟨_, at' 54 _ rfl⟩, ⟨_, at' 55 _ rfl⟩, ⟨_, at' 56 _ rfl⟩, ⟨_, at' 57 _ rfl⟩, ⟨_, at' 58 _ rfl⟩, ⟨_, at' 59 _ rfl⟩⟩
  have hT : anTr h' 124 := ⟨⟨_, at' 60 _ rfl⟩, ⟨_, at' 61 _ rfl⟩, ⟨_, at' 62 _ rfl⟩, ⟨_, at' 63 _ rfl⟩, ⟨_, at' 64 _ rfl⟩⟩
  have hR : Scr h' := ⟨at' 67 _ rfl, ⟨_, at' 68 _ rfl⟩, ⟨_, at' 69 _ rfl⟩, ⟨_, at' 70 _ rfl⟩, ⟨_, at' 71 _ rfl⟩, ⟨_, at' 72 _ rfl⟩, ⟨_, at' 73 _ rfl⟩, ⟨⟨_, _, at' 74 _ rfl⟩, ⟨_, at' 75 _ rfl⟩, ⟨_, at' 76 _ rfl⟩, ⟨_, at' 77 _ rfl⟩⟩, ⟨_, at' 78 _ rfl⟩, ⟨_, at' 79 _ rfl⟩, ⟨_, at' 80 _ rfl⟩⟩
  have hD : DrD h' D0 [] (fun _ => 0) (fun _ => 0) 0 := ⟨at' 7 _ rfl, ⟨_, at' 8 _ rfl, vac⟩, ⟨_, at' 9 _ rfl, vac⟩, ⟨_, at' 10 _ rfl, fun _ _ => rfl⟩, ⟨_, at' 11 _ rfl, fun _ _ => rfl⟩, ⟨_, at' 12 _ rfl, fun _ _ => rfl⟩, ⟨_, at' 13 _ rfl, fun _ _ => rfl⟩, ⟨_, at' 14 _ rfl, fun _ _ => rfl⟩, ⟨_, at' 15 _ rfl, fun _ _ => rfl⟩, ⟨at' 16 _ rfl, ⟨_, at' 17 _ rfl, fun _ _ => rfl⟩, ⟨_, at' 18 _ rfl, fun _ _ => rfl⟩, ⟨_, at' 19 _ rfl, fun _ _ => rfl⟩, ⟨_, at' 20 _ rfl, fun _ _ => rfl⟩⟩, ⟨_, at' 21 _ rfl, fun j z => absurd z (Nat.not_lt_zero _)⟩, ⟨_, at' 22 _ rfl, fun _ _ => rfl⟩, ⟨_, at' 23 _ rfl, fun _ _ => rfl⟩, Or.inl rfl, fun _ => List.not_mem_nil⟩
  have hN : CN h' [] := ⟨⟨at' 1 _ rfl, ⟨_, at' 2 _ rfl, fun j z => absurd z (Nat.not_lt_zero _)⟩, Nat.zero_le _, fun s z => absurd z List.not_mem_nil⟩, ⟨_, at' 33 _ rfl⟩, [], 0, D0, [], _, _, 0, 0, 0, 0, ⟨at' 3 _ rfl, ⟨_, at' 4 _ rfl, fun j z => absurd z (Nat.not_lt_zero _)⟩, ⟨_, at' 5 _ rfl, fun j z => absurd z (Nat.not_lt_zero _)⟩, ⟨_, at' 6 _ rfl, fun j z => absurd z (Nat.not_lt_zero _)⟩⟩, at' 24 _ rfl, hD, fun _ _ => ⟨Nat.zero_le _, Nat.zero_le _⟩, fun _ => Nat.zero_le _⟩
  refine hq h' e1 ?_ ⟨⟨0, at' 0 _ rfl⟩, hL, hS, hA, hT, hR⟩ (at' 65 _ rfl) (at' 66 _ rfl) hN (fun j z => old j (Or.inr z))
  rw [e2]
  dsimp only
  omega
theorem i_M {s : Nat} {g : Nat → Option ax_E} (hq : ∀ h', h'.1 = 167 → h'.2.1 ≤ s + 30000 → MoI h' 0 (nI 0) N0 z0 (fun _ => none) → TpM h' [] → PsK h' → (∀ j, j < 145 → h'.2.2 j = g j) → Q (.inl none) h') : X G (d + 1) mX12_init 0 (ax_in 2 [.ref 145]) [] (HL (145, s, g) 145 (s + 36) [.inr (10, [.int 0, .null, .int 0, .int 0, .null, .null, .null, .int 0, .int 0, .null, .null, .null, .null, .int 0, .null, .null, .int 0, .int 0, .null, .null, .null, .null, .null, .int 0, .int 0, .int 0, .int 0, .null, .null, .null, .int 0, .int 0, .null, .null, .null, .long 0])]) Q := by
  refine i_X12 (h := (145, s, g)) (HL_use (fun h' e1 e2 at' old => ?_))
  have hMo : MoI h' 0 (nI 0) N0 z0 (fun _ => none) := by
    refine ⟨_, _, _, _, _, _, _, _, _, _, _, _, _, at' 0 _ rfl, ⟨?_, ?_, ?_, ?_, fun s z => absurd z (Nat.not_lt_zero _), fun s z => absurd z (Nat.not_lt_zero _)⟩, fun s z => absurd z (Nat.not_lt_zero _), fun z => absurd z (Nat.lt_irrefl _), ⟨at' 6 _ rfl, at' 7 _ rfl, at' 8 _ rfl, at' 14 _ rfl, ⟨_, at' 12 _ rfl⟩, ⟨_, at' 13 _ rfl⟩⟩, ⟨⟨_, at' 16 _ rfl⟩, ⟨_, at' 17 _ rfl⟩, ⟨_, at' 18 _ rfl⟩, ⟨_, at' 19 _ rfl⟩, ⟨_, at' 20 _ rfl⟩, ⟨_, at' 21 _ rfl⟩⟩, ⟨⟨rfl, fun s z => absurd z (Nat.not_lt_zero _), fun _ _ => rfl, fun _ _ => rfl⟩, ⟨fun _ _ => (show (0 : Int32) = nI 1 - nI 1 from by decide), fun _ _ => rfl, fun s z => absurd z (Nat.not_lt_zero _)⟩, fun _ _ => rfl, fun y r s z => absurd z (Nat.not_lt_zero _)⟩, ⟨_, at' 15 _ rfl, fun m _ => ⟨rfl, fun τ y => by cases y⟩⟩⟩
    · decide
    · decide
    · decide
    · decide
  have hK : PsK h' := by
    refine ⟨⟨_, _, _, _, _, at' 2 _ rfl, at' 3 _ rfl, at' 4 _ rfl, at' 9 _ rfl, at' 10 _ rfl⟩, ⟨_, at' 5 _ rfl, ?_⟩, ⟨_, at' 11 _ rfl, ?_⟩⟩
    · decide +kernel
    · decide +kernel
  refine hq h' e1 ?_ hMo ⟨⟨_, at' 1 _ rfl, fun j z => absurd z (Nat.not_lt_zero _)⟩, Nat.zero_le _, fun s z => absurd z List.not_mem_nil⟩ hK (fun j z => old j (Or.inl z))
  rw [e2]
  dsimp only
  omega
end LOP
