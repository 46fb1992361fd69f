section NT2
variable {G : ax_G} {d : Nat} {h : ax_H} {Q : ax_O → ax_H → Prop} {D : DD} {cs : List Nat} {lb le : Nat → Nat} {hl : Int32}
/-- net's outcome: what the reader comes to -/
def rNet (tp : List Nat) (l : Nat) (D : DD) : RS := mRead (cutA tp) 1001 (r0 l D)
/-- the net read -/
def nNet (r : RS) : Nt := nOf r.2.2.1 (flA3 r.2.2.2).1 (flA3 r.2.2.2).2.1 (flA3 r.2.2.2).2.2.1
def ntP : Nat → Prop := fun j => j = 65 ∨ (67 ≤ j ∧ j ≤ 114) ∨ j = 130
theorem c_net {tp : List Nat} {ts0 : List CT} {l k0 : Nat} {x f0 : Int32} {dr : Int64} {fz : Nat → Int32} (e64 : h.2.2 64 = some (eX dr)) (hT : Tape h tp) (hP : TkP h ts0) (e88 : h.2.2 88 = some (eRd k0 x (nI l) f0)) (hD : DrD h D cs lb le hl) (hA : anLand h) (hE : anSt h 106 40) (e130 : h.2.2 130 = some (eZ 4 fz))
    (ht : tsOK (cutA tp)) (hN : tsN (cutA tp)) (hlr : (rNet tp l D).1.2 = 0 → lOK (rNet tp l D).2.2.2) (hnr : (rNet tp l D).1.2 = 0 → nOK (nNet (rNet tp l D)))
    (hq : ∀ h', But h h' ntP → Tape h' [] → Rd h' (cutA tp) (rNet tp l D).2.1 (rNet tp l D).1 → DrD h' (rNet tp l D).2.2.1 (flA3 (rNet tp l D).2.2.2).1 (flA3 (rNet tp l D).2.2.2).2.1 (flA3 (rNet tp l D).2.2.2).2.2.1 (flA3 (rNet tp l D).2.2.2).2.2.2 →
      ((¬ (rNet tp l D).1.2 = 0 ∧ ∀ j, 89 ≤ j → h'.2.2 j = h.2.2 j) ∨ ((rNet tp l D).1.2 = 0 ∧ Land h' (nNet (rNet tp l D)) ∧ isA h' 97 10 (nR (nNet (rNet tp l D))) (rNet tp l D).2.2.1.2.1 ∧ StIs h' 106 40 (nNet (rNet tp l D)) (s0 (rNet tp l D).2.2.1.2.1) ∧ ∃ g, h'.2.2 130 = some (eZ 4 g) ∧ ∀ i, i < 4 → g i = 0)) →
      Q (.inl (some (.int (nI (rNet tp l D).1.2)))) h') : X G (d + 41) mX11_net 0 (ax_in 3 [.ref 64]) [] h Q := by
  have e65 := hT.1
  have e67 := hP.1
  have hlen : 0 < (cutA tp).length := by unfold cutA; rw [List.length_append, List.length_singleton]; omega
  refine ax_aload_n dX11_net_0 rfl ?_
  refine ax_getf dX11_net_1 flX11_19 e64 rfl ?_
  refine ax_aload_n dX11_net_4 rfl ?_
  refine ax_getf dX11_net_5 flX11_10 e64 rfl ?_
  refine ax_cV dX11_net_8 mmX7_cut lkX11_104 miX7_cut msX7_cut (ax_recv_of e67 rfl) rfl rfl (Nat.le_of_ble_eq_true rfl) (Nat.le_of_ble_eq_true rfl) rfl rfl (c_cut (d := d + 37) hT hP (fun h1 hb1 hP1 => ⟨_, rfl, ?_⟩))
  have e64 := (hb1.2.2 64 (by omega)).trans e64
  have e65 := (hb1.2.2 65 (by omega)).trans e65
  refine ax_aload_n dX11_net_11 rfl ?_
  refine ax_getf dX11_net_12 flX11_10 e64 rfl ?_
  refine ax_iconst dX11_net_15 (v := nI 0) (by decide) ?_
  refine ax_putf dX11_net_16 flX11_100 e65 (Nat.le_of_ble_eq_true rfl) (fun _ => ⟨rfl, rfl⟩) ?_
  refine ax_hp (h1 := ax_wr h1 65 (eTape (nI 0))) rfl ?_
  have kp2 : ∀ j, (j < 65 ∨ (65 < j ∧ j < 67) ∨ 70 < j) → (ax_wr h1 65 (eTape (nI 0))).2.2 j = h.2.2 j := fun j z => (ax_wr_ne (by omega)).trans (hb1.2.2 j (by omega))
  have hP2 : TkP (ax_wr h1 65 (eTape (nI 0))) (cutA tp) := hP1.kept (fun j z1 z2 => ax_wr_ne (by omega))
  have hT2 : Tape (ax_wr h1 65 (eTape (nI 0))) [] := by
    obtain ⟨-, ⟨f, e66, -⟩, -, -⟩ := hT
    exact ⟨ax_wr_eq, ⟨f, (kp2 66 (by omega)).trans e66, fun j hj => absurd hj (Nat.not_lt_zero _)⟩, Nat.zero_le _, fun s hs => by cases hs⟩
  have hb2 : But h (ax_wr h1 65 (eTape (nI 0))) ntP := (hb1.wide (fun j z => Or.inr (Or.inl (by omega)))).wr (Or.inl rfl)
  generalize ax_wr h1 65 (eTape (nI 0)) = h2 at kp2 hP2 hT2 hb2 ⊢
  have e64 := (kp2 64 (by omega)).trans ((hb1.2.2 64 (by omega)).symm.trans e64)
  have e88 := (kp2 88 (by omega)).trans e88
  have hD2 : DrD h2 D cs lb le hl := hD.kept (fun j z1 z2 => kp2 j (by omega))
  refine ax_aload_n dX11_net_19 rfl ?_
  refine ax_getf dX11_net_20 flX11_35 e64 rfl ?_
  refine ax_cV dX11_net_23 mmX2_read lkX11_108 miX2_read msX2_read (ax_recv_of e88 rfl) rfl rfl (Nat.le_of_ble_eq_true rfl) (Nat.le_of_ble_eq_true rfl) rfl rfl (c_read (d := d) hlen ht hN e88 hP2 hD2 (fun h3 hb3 hR3 hD3 => ⟨_, rfl, ?_⟩))
  have kp3 : ∀ j, (j < 71 ∨ 88 < j) → h3.2.2 j = h2.2.2 j := fun j z => hb3.2.2 j (by unfold rdP; omega)
  have e64 := (kp3 64 (by omega)).trans e64
  have hT3 : Tape h3 [] := hT2.kept (fun j z1 z2 => kp3 j (by omega))
  have hb3' : But h h3 ntP := hb2.tr (hb3.wide (fun j z => by unfold rdP at z; exact Or.inr (Or.inl (by omega))))
  have hq := hq
  unfold rNet at hq hlr hnr
  generalize hr : mRead (cutA tp) 1001 (r0 l D) = r at hq hR3 hD3 hlr hnr ⊢
  have oR : rOK (cutA tp) r := by
    rw [← hr]
    exact mRead_ok ht _ _ ⟨⟨hlen, by show 0 ≤ 20000; omega⟩, by show (0 : Nat) ≤ 5; omega, by show (0 : Nat) ≤ 7; omega, by show (0 : Nat) ≤ 10; omega, by show (0 : Nat) ≤ 6; omega, by show (0 : Nat) ≤ 1003; omega, fun l _ => ⟨by show (0 : Nat) ≤ 1003; omega, by show (0 : Nat) ≤ 1003; omega⟩⟩
  have hf := oR.1.2
  by_cases hz : r.1.2 = 0
  · have hl1 := flA3_ok (hlr hz)
    have hn1 := hnr hz
    have hA3 : anLand h3 := by
      obtain ⟨⟨a, b, c, e, f, q⟩, a1, a2, a3, a4, a5, a6, a7, a8, a9, a10⟩ := hA
      have kk : ∀ j, 89 ≤ j → j ≤ 105 → h3.2.2 j = h.2.2 j := fun j z1 z2 => (kp3 j (by omega)).trans (kp2 j (by omega))
      exact ⟨⟨a, b, c, e, f, (kk _ (by omega) (by omega)).trans q⟩, a1.kept (kk _ (by omega) (by omega)), a2.kept (kk _ (by omega) (by omega)), a3.kept (kk _ (by omega) (by omega)), a4.kept (kk _ (by omega) (by omega)), a5.kept (kk _ (by omega) (by omega)), a6.kept (kk _ (by omega) (by omega)), a7.kept (fun j z1 z2 => kk j (by omega) (by omega)), a8.kept (kk _ (by omega) (by omega)), a9.kept (kk _ (by omega) (by omega)), a10.kept (kk _ (by omega) (by omega))⟩
    obtain ⟨⟨a, b, c, e, f, e89⟩, -⟩ := id hA3
    have hDB : DrB r.2.2.1.1 (flA3 r.2.2.2).1 (flA3 r.2.2.2).2.1 (flA3 r.2.2.2).2.2.1 := flN_ok (flN_ok (flN_ok oR.2))
    refine ax_istore_n dX11_net_26 (Nat.le_of_ble_eq_true rfl) ?_
    refine ax_iload_n dX11_net_27 rfl ?_
    refine ax_if_eqT 33 dX11_net_28 (by decide) (by rw [hz]; rfl) ?_
    refine ax_aload_n dX11_net_33 rfl ?_
    refine ax_getf dX11_net_34 flX11_39 e64 rfl ?_
    refine ax_aload_n dX11_net_37 rfl ?_
    refine ax_getf dX11_net_38 flX11_26 e64 rfl ?_
    refine ax_cV dX11_net_41 mmX1_take lkX11_112 miX1_take msX1_take (ax_recv_of e89 rfl) rfl rfl (Nat.le_of_ble_eq_true rfl) (Nat.le_of_ble_eq_true rfl) rfl rfl (c_netTake (d := d + 38) hDB (fun w hw => ⟨Nat.le_of_lt (hl1.2 w hw).1, (hl1.2 w hw).2⟩) hD3 hA3 (fun h4 hb4 hL4 hH4 => ⟨_, rfl, ?_⟩))
    have e64 := (hb4.2.2 64 (by omega)).trans e64
    obtain ⟨⟨co, hl4, e89, -⟩, -⟩ := id hL4
    have hE4 : anSt h4 106 40 := hE.kept (fun j z1 z2 => (hb4.2.2 j (by omega)).trans ((kp3 j (by omega)).trans (kp2 j (by omega))))
    obtain ⟨y, e106⟩ := hE4.1
    refine ax_aload_n dX11_net_44 rfl ?_
    refine ax_getf dX11_net_45 flX11_47 e64 rfl ?_
    refine ax_aload_n dX11_net_48 rfl ?_
    refine ax_getf dX11_net_49 flX11_39 e64 rfl ?_
    refine ax_cV dX11_net_52 mmX3_begin lkX11_115 miX3_begin msX3_begin (ax_recv_of e106 rfl) rfl rfl (Nat.le_of_ble_eq_true rfl) (Nat.le_of_ble_eq_true rfl) rfl rfl (c_begin (d := d + 39) (by omega) (by omega) hn1 hE4 e89 hH4 (fun h5 hb5 hE5 => ⟨_, rfl, ?_⟩))
    have e64 := (hb5.2.2 64 (by omega)).trans e64
    have kp5 : ∀ j, (j < 106 ∨ 113 < j) → h5.2.2 j = h4.2.2 j := fun j z => hb5.2.2 j (by omega)
    have e130 : h5.2.2 130 = some (eZ 4 fz) := (kp5 _ (by omega)).trans ((hb4.2.2 _ (by omega)).trans ((kp3 _ (by omega)).trans ((kp2 _ (by omega)).trans e130)))
    have hb5' : But h h5 ntP := (hb3'.tr (hb4.wide (fun j z => Or.inr (Or.inl (by omega))))).tr (hb5.wide (fun j z => Or.inr (Or.inl (by omega))))
    have loop : ∀ (m i : Nat) (h6 : ax_H) (g : Nat → Int32), i + m = 4 → h6.2.2 130 = some (eZ 4 g) → (∀ j, j < i → g j = 0) → But h5 h6 (fun j => j = 130) → X G (d + 41) mX11_net 57 [some (.ref 64), some (.int (nI r.1.2)), some (.int (nI i))] [] h6 Q := by
      intro m
      induction m with
      | zero =>
        intro i h6 g hi e130 hg hb6
        obtain rfl : i = 4 := by omega
        have kp6 : ∀ j, j ≠ 130 → h6.2.2 j = h5.2.2 j := hb6.2.2
        refine ax_iload_n dX11_net_57 rfl ?_
        refine ax_iconst dX11_net_58 (v := nI 4) (by decide) ?_
        refine ax_icmp_geT 75 dX11_net_59 (by decide) (by decide) ?_
        refine ax_iconst dX11_net_75 (v := nI 0) (by decide) ?_
        refine ax_ireturn dX11_net_76 rfl ?_
        have := hq h6 (hb5'.tr (hb6.wide (fun j z => Or.inr (Or.inr z)))) (hT3.kept (fun j z1 z2 => (kp6 j (by omega)).trans ((kp5 j (by omega)).trans (hb4.2.2 j (by omega))))) (hR3.kept (fun j z1 z2 => (kp6 j (by omega)).trans ((kp5 j (by omega)).trans (hb4.2.2 j (by omega))))) (hD3.kept (fun j z1 z2 => (kp6 j (by omega)).trans ((kp5 j (by omega)).trans (hb4.2.2 j (by omega))))) (Or.inr ⟨hz, hL4.kept (fun j z1 z2 => (kp6 j (by omega)).trans (kp5 j (by omega))), hH4.kept ((kp6 _ (by omega)).trans (kp5 _ (by omega))), hE5.kept (fun j z1 z2 => kp6 j (by omega)), g, e130, fun i hi => hg i hi⟩)
        rw [hz] at this
        exact this
      | succ m ih =>
        intro i h6 g hi e130 hg hb6
        have e64 := (hb6.2.2 64 (by omega)).trans e64
        refine ax_iload_n dX11_net_57 rfl ?_
        refine ax_iconst dX11_net_58 (v := nI 4) (by decide) ?_
        refine ax_icmp_geF 75 dX11_net_59 (by decide) (nI_ge (by omega) (by omega)) ?_
        refine ax_aload_n dX11_net_62 rfl ?_
        refine ax_getf dX11_net_63 flX11_65 e64 rfl ?_
        refine ax_iload_n dX11_net_66 rfl ?_
        refine ax_iconst dX11_net_67 (v := nI 0) (by decide) ?_
        refine ax_zast dX11_net_68 e130 (ax_ix_nI (j := i) (by omega) (by decide)) rfl ?_
        refine ax_iinc dX11_net_69 rfl (ax_inc 1) ?_
        refine ax_goto 57 dX11_net_72 (by decide) ?_
        rw [nI_add]
        refine ih (i + 1) _ _ (by omega) ax_wr_eq (fun j hj => ?_) (hb6.wr rfl)
        unfold upd
        by_cases hji : j = i
        · rw [if_pos hji]; rfl
        · rw [if_neg hji]; exact hg j (by omega)
    refine ax_iconst dX11_net_55 (v := nI 0) (by decide) ?_
    refine ax_istore_n dX11_net_56 (Nat.le_of_ble_eq_true rfl) ?_
    exact loop 4 0 h5 fz rfl e130 (fun j hj => absurd hj (Nat.not_lt_zero _)) But.rf
  · refine ax_istore_n dX11_net_26 (Nat.le_of_ble_eq_true rfl) ?_
    refine ax_iload_n dX11_net_27 rfl ?_
    refine ax_if_eqF 33 dX11_net_28 (by decide) (fun q => hz ((nI_eq (by omega) (by omega)).mp q)) ?_
    refine ax_iload_n dX11_net_31 rfl ?_
    exact ax_ireturn dX11_net_32 rfl (hq h3 hb3' hT3 hR3 hD3 (Or.inl ⟨hz, fun j z => (kp3 j (by omega)).trans (kp2 j (by omega))⟩))
end NT2
