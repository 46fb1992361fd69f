/-! ===== the model's net: its loops ===== -/
section MNE
variable {G : ax_G} {d : Nat} {h : ax_H} {Q : ax_O → ax_H → Prop}
variable {th ta si pt fa co nm rd ask nw os sw bc bm : Int32} {gg : Int64}
variable {F O A S Z : Nat → Int32} {o : Option Value}
theorem k_ne6 (e145 : h.2.2 145 = some (eM th ta si pt fa co nm rd ask nw os sw bc bm gg)) (e160 : h.2.2 160 = some (eZ 4 Z)) (hq : ∀ h' Z' x, But h h' (fun j => j = 160) → h'.2.2 160 = some (eZ 4 Z') → (∀ j, j < 4 → Z' j = 0) → X G d mX12_net 282 [some (.ref 145), some (.int x)] [] h' Q) : X G d mX12_net 262 [some (.ref 145), o] [] h Q := by
  have loop : ∀ (m i : Nat) (h1 : ax_H) (Z1 : Nat → Int32), i + m = 4 → But h h1 (fun j => j = 160) → h1.2.2 160 = some (eZ 4 Z1) → (∀ j, j < i → Z1 j = 0) → X G d mX12_net 264 [some (.ref 145), some (.int (nI i))] [] h1 Q := by
    intro m
    induction m with
    | zero =>
      intro i h1 Z1 hi hb e160 hz
      refine ax_iload_n dX12_net_264 rfl ?_
      refine ax_iconst dX12_net_265 (v := nI 4) (by decide) ?_
      refine ax_icmp_geT 282 dX12_net_266 (by decide +kernel) (nI_le (by omega) (by omega)) ?_
      exact hq h1 Z1 _ hb e160 (fun j z => hz j (by omega))
    | succ m ih =>
      intro i h1 Z1 hi hb e160 hz
      have e145 := (hb.2.2 145 (by decide)).trans e145
      refine ax_iload_n dX12_net_264 rfl ?_
      refine ax_iconst dX12_net_265 (v := nI 4) (by decide) ?_
      refine ax_icmp_geF 282 dX12_net_266 (by decide +kernel) (nI_ge (by omega) (by omega)) ?_
      refine ax_aload_n dX12_net_269 rfl ?_
      refine ax_getf dX12_net_270 flX12_102 e145 rfl ?_
      refine ax_iload_n dX12_net_273 rfl ?_
      refine ax_iconst dX12_net_274 (v := nI 0) (by decide) ?_
      refine ax_zast dX12_net_275 e160 (ax_ix_nI (j := i) (by omega) (by decide)) rfl ?_
      refine ax_iinc dX12_net_276 rfl (ax_inc 1) ?_
      refine ax_goto 264 dX12_net_279 (by decide +kernel) ?_
      rw [nI_add i 1]
      refine ih (i + 1) _ _ (by omega) (hb.wr rfl) ax_wr_eq (fun j z => ?_)
      by_cases e : j = i
      · rw [e]; exact upd_eq
      · rw [upd_ne e]; exact hz j (by omega)
  refine ax_iconst dX12_net_262 (v := nI 0) (by decide) ?_
  refine ax_istore_n dX12_net_263 (Nat.le_of_ble_eq_true rfl) ?_
  exact loop 4 0 h Z rfl But.rf e160 (fun j z => absurd z (Nat.not_lt_zero _))
theorem k_ne5 (e145 : h.2.2 145 = some (eM th ta si pt fa co nm rd ask nw os sw bc bm gg)) (e159 : h.2.2 159 = some (eI 12840 S)) (hq : ∀ h' S' x, But h h' (fun j => j = 159) → h'.2.2 159 = some (eI 12840 S') → (∀ j, j < 6 → S' (111 + j) = -1) → (∀ j, j < 111 ∨ 117 ≤ j → S' j = S j) → X G d mX12_net 262 [some (.ref 145), some (.int x)] [] h' Q) : X G d mX12_net 238 [some (.ref 145), o] [] h Q := by
  have loop : ∀ (m i : Nat) (h1 : ax_H) (S1 : Nat → Int32), i + m = 6 → But h h1 (fun j => j = 159) → h1.2.2 159 = some (eI 12840 S1) → (∀ j, j < i → S1 (111 + j) = -1) → (∀ j, j < 111 ∨ 111 + i ≤ j → S1 j = S j) → X G d mX12_net 240 [some (.ref 145), some (.int (nI i))] [] h1 Q := by
    intro m
    induction m with
    | zero =>
      intro i h1 S1 hi hb e159 hz hy
      refine ax_iload_n dX12_net_240 rfl ?_
      refine ax_bipush dX12_net_241 (v := nI 6) (by decide) ?_
      refine ax_icmp_geT 262 dX12_net_243 (by decide +kernel) (nI_le (by omega) (by omega)) ?_
      exact hq h1 S1 _ hb e159 (fun j z => hz j (by omega)) (fun j z => hy j (by omega))
    | succ m ih =>
      intro i h1 S1 hi hb e159 hz hy
      have e145 := (hb.2.2 145 (by decide)).trans e145
      refine ax_iload_n dX12_net_240 rfl ?_
      refine ax_bipush dX12_net_241 (v := nI 6) (by decide) ?_
      refine ax_icmp_geF 262 dX12_net_243 (by decide +kernel) (nI_ge (by omega) (by omega)) ?_
      refine ax_aload_n dX12_net_246 rfl ?_
      refine ax_getf dX12_net_247 flX12_99 e145 rfl ?_
      refine ax_bipush dX12_net_250 (v := nI 111) (by decide) ?_
      refine ax_iload_n dX12_net_252 rfl ?_
      refine ax_iadd dX12_net_253 ?_
      rw [nI_add 111 i]
      refine ax_iconst dX12_net_254 (v := -1) (by decide) ?_
      refine ax_iast dX12_net_255 e159 (ax_ix_nI (j := 111 + i) (by omega) (by decide)) ?_
      refine ax_iinc dX12_net_256 rfl (ax_inc 1) ?_
      refine ax_goto 240 dX12_net_259 (by decide +kernel) ?_
      rw [nI_add i 1]
      refine ih (i + 1) _ _ (by omega) (hb.wr rfl) ax_wr_eq (fun j z => ?_) (fun j z => ?_)
      · by_cases e : j = i
        · rw [e]; exact upd_eq
        · rw [upd_ne (by omega)]; exact hz j (by omega)
      · rw [upd_ne (by omega)]; exact hy j (by omega)
  refine ax_iconst dX12_net_238 (v := nI 0) (by decide) ?_
  refine ax_istore_n dX12_net_239 (Nat.le_of_ble_eq_true rfl) ?_
  exact loop 6 0 h S rfl But.rf e159 (fun j z => absurd z (Nat.not_lt_zero _)) (fun _ _ => rfl)
theorem k_ne4 {R : Nat} (hR : R ≤ 10) (hF : F 2 = nI R) (e145 : h.2.2 145 = some (eM th ta si pt fa co nm rd ask nw os sw bc bm gg)) (e151 : h.2.2 151 = some (eI 168 F)) (e159 : h.2.2 159 = some (eI 12840 S)) (hq : ∀ h' S' x, But h h' (fun j => j = 159) → h'.2.2 159 = some (eI 12840 S') → (∀ j, j < R → S' (1 + j) = F (17 + 4 * j + 3)) → (∀ j, j < 1 ∨ 1 + R ≤ j → S' j = S j) → X G (d + 1) mX12_net 238 [some (.ref 145), some (.int x)] [] h' Q) : X G (d + 1) mX12_net 201 [some (.ref 145), o] [] h Q := by
  have loop : ∀ (m i : Nat) (h1 : ax_H) (S1 : Nat → Int32), i + m = R → But h h1 (fun j => j = 159) → h1.2.2 159 = some (eI 12840 S1) → (∀ j, j < i → S1 (1 + j) = F (17 + 4 * j + 3)) → (∀ j, j < 1 ∨ 1 + i ≤ j → S1 j = S j) → X G (d + 1) mX12_net 203 [some (.ref 145), some (.int (nI i))] [] h1 Q := by
    intro m
    induction m with
    | zero =>
      intro i h1 S1 hi hb e159 hz hy
      have e145 := (hb.2.2 145 (by decide)).trans e145
      have e151 := (hb.2.2 151 (by decide)).trans e151
      refine ax_iload_n dX12_net_203 rfl ?_
      refine ax_aload_n dX12_net_204 rfl ?_
      refine ax_cV dX12_net_205 mmX12_roads lkX12_194 miX12_roads msX12_roads (ax_recv_of e145 rfl) rfl rfl (Nat.le_of_ble_eq_true rfl) (Nat.le_of_ble_eq_true rfl) rfl rfl (k_roads (d := d) e145 e151 ⟨_, rfl, ?_⟩)
      rw [hF]
      refine ax_icmp_geT 238 dX12_net_208 (by decide +kernel) (nI_le (by omega) (by omega)) ?_
      exact hq h1 S1 _ hb e159 (fun j z => hz j (by omega)) (fun j z => hy j (by omega))
    | succ m ih =>
      intro i h1 S1 hi hb e159 hz hy
      have e145 := (hb.2.2 145 (by decide)).trans e145
      have e151 := (hb.2.2 151 (by decide)).trans e151
      refine ax_iload_n dX12_net_203 rfl ?_
      refine ax_aload_n dX12_net_204 rfl ?_
      refine ax_cV dX12_net_205 mmX12_roads lkX12_194 miX12_roads msX12_roads (ax_recv_of e145 rfl) rfl rfl (Nat.le_of_ble_eq_true rfl) (Nat.le_of_ble_eq_true rfl) rfl rfl (k_roads (d := d) e145 e151 ⟨_, rfl, ?_⟩)
      rw [hF]
      refine ax_icmp_geF 238 dX12_net_208 (by decide +kernel) (nI_ge (by omega) (by omega)) ?_
      refine ax_aload_n dX12_net_211 rfl ?_
      refine ax_getf dX12_net_212 flX12_99 e145 rfl ?_
      refine ax_iconst dX12_net_215 (v := nI 1) (by decide) ?_
      refine ax_iload_n dX12_net_216 rfl ?_
      refine ax_iadd dX12_net_217 ?_
      rw [nI_add 1 i]
      refine ax_aload_n dX12_net_218 rfl ?_
      refine ax_getf dX12_net_219 flX12_75 e145 rfl ?_
      refine ax_bipush dX12_net_222 (v := nI 17) (by decide) ?_
      refine ax_iconst dX12_net_224 (v := nI 4) (by decide) ?_
      refine ax_iload_n dX12_net_225 rfl ?_
      refine ax_imul dX12_net_226 ?_
      refine ax_iadd dX12_net_227 ?_
      refine ax_iconst dX12_net_228 (v := nI 3) (by decide) ?_
      refine ax_iadd dX12_net_229 ?_
      rw [pk_mul 4 i, nI_add 17 (4 * i), nI_add (17 + 4 * i) 3]
      refine ax_iald dX12_net_230 e151 (ax_ix_nI (j := 17 + 4 * i + 3) (by omega) (by decide)) ?_
      refine ax_iast dX12_net_231 e159 (ax_ix_nI (j := 1 + i) (by omega) (by decide)) ?_
      refine ax_iinc dX12_net_232 rfl (ax_inc 1) ?_
      refine ax_goto 203 dX12_net_235 (by decide +kernel) ?_
      rw [nI_add i 1]
      refine ih (i + 1) _ _ (by omega) (hb.wr rfl) ax_wr_eq (fun j z => ?_) (fun j z => ?_)
      · by_cases e : j = i
        · rw [e]; exact upd_eq
        · rw [upd_ne (by omega)]; exact hz j (by omega)
      · rw [upd_ne (by omega)]; exact hy j (by omega)
  refine ax_iconst dX12_net_201 (v := nI 0) (by decide) ?_
  refine ax_istore_n dX12_net_202 (Nat.le_of_ble_eq_true rfl) ?_
  exact loop R 0 h S (by omega) But.rf e159 (fun j z => absurd z (Nat.not_lt_zero _)) (fun _ _ => rfl)
theorem k_ne3 (e145 : h.2.2 145 = some (eM th ta si pt fa co nm rd ask nw os sw bc bm gg)) (e159 : h.2.2 159 = some (eI 12840 S)) (hq : ∀ h' S' x, But h h' (fun j => j = 159) → h'.2.2 159 = some (eI 12840 S') → (∀ j, j < 2140 → S' j = nI 0) → X G d mX12_net 201 [some (.ref 145), some (.int x)] [] h' Q) : X G d mX12_net 179 [some (.ref 145), o] [] h Q := by
  have loop : ∀ (m i : Nat) (h1 : ax_H) (S1 : Nat → Int32), i + m = 2140 → But h h1 (fun j => j = 159) → h1.2.2 159 = some (eI 12840 S1) → (∀ j, j < i → S1 j = nI 0) → X G d mX12_net 181 [some (.ref 145), some (.int (nI i))] [] h1 Q := by
    intro m
    induction m with
    | zero =>
      intro i h1 S1 hi hb e159 hz
      refine ax_iload_n dX12_net_181 rfl ?_
      refine ax_sipush dX12_net_182 (v := nI 2140) (by decide) ?_
      refine ax_icmp_geT 201 dX12_net_185 (by decide) (nI_le (by omega) (by omega)) ?_
      exact hq h1 S1 _ hb e159 (fun j z => hz j (by omega))
    | succ m ih =>
      intro i h1 S1 hi hb e159 hz
      have e145 := (hb.2.2 145 (by decide)).trans e145
      refine ax_iload_n dX12_net_181 rfl ?_
      refine ax_sipush dX12_net_182 (v := nI 2140) (by decide) ?_
      refine ax_icmp_geF 201 dX12_net_185 (by decide) (nI_ge (by omega) (by omega)) ?_
      refine ax_aload_n dX12_net_188 rfl ?_
      refine ax_getf dX12_net_189 flX12_99 e145 rfl ?_
      refine ax_iload_n dX12_net_192 rfl ?_
      refine ax_iconst dX12_net_193 (v := nI 0) (by decide) ?_
      refine ax_iast dX12_net_194 e159 (ax_ix_nI (j := i) (by omega) (by decide)) ?_
      refine ax_iinc dX12_net_195 rfl (ax_inc 1) ?_
      refine ax_goto 181 dX12_net_198 (by decide) ?_
      rw [nI_add i 1]
      refine ih (i + 1) _ _ (by omega) (hb.wr rfl) ax_wr_eq (fun j z => ?_)
      by_cases e : j = i
      · rw [e]; exact upd_eq
      · rw [upd_ne e]; exact hz j (by omega)
  refine ax_iconst dX12_net_179 (v := nI 0) (by decide) ?_
  refine ax_istore_n dX12_net_180 (Nat.le_of_ble_eq_true rfl) ?_
  exact loop 2140 0 h S rfl But.rf e159 (fun j z => absurd z (Nat.not_lt_zero _))
theorem k_ne2 {K : Nat} (hK : K ≤ 1100) (e145 : h.2.2 145 = some (eM th ta si pt fa (nI K) nm rd ask nw os sw bc bm gg)) (e152 : h.2.2 152 = some (eI 2200 O)) (e153 : h.2.2 153 = some (eI 2200 A)) (hq : ∀ h' O' A' x, But h h' (fun j => j = 152 ∨ j = 153) → h'.2.2 152 = some (eI 2200 O') → h'.2.2 153 = some (eI 2200 A') → (∀ k, k < K → O' k = O (1100 + k) ∧ A' k = A (1100 + k)) → X G d mX12_net 179 [some (.ref 145), some (.int x)] [] h' Q) : X G d mX12_net 131 [some (.ref 145), o] [] h Q := by
  have loop : ∀ (m i : Nat) (h1 : ax_H) (O1 A1 : Nat → Int32), i + m = K → But h h1 (fun j => j = 152 ∨ j = 153) → h1.2.2 152 = some (eI 2200 O1) → h1.2.2 153 = some (eI 2200 A1) → (∀ j, j < i → O1 j = O (1100 + j) ∧ A1 j = A (1100 + j)) → (∀ j, i ≤ j → O1 j = O j ∧ A1 j = A j) → X G d mX12_net 133 [some (.ref 145), some (.int (nI i))] [] h1 Q := by
    intro m
    induction m with
    | zero =>
      intro i h1 O1 A1 hi hb e152 e153 hz hy
      have e145 := (hb.2.2 145 (by decide)).trans e145
      refine ax_iload_n dX12_net_133 rfl ?_
      refine ax_aload_n dX12_net_134 rfl ?_
      refine ax_getf dX12_net_135 flX12_185 e145 rfl ?_
      refine ax_icmp_geT 179 dX12_net_138 (by decide) (nI_le (by omega) (by omega)) ?_
      exact hq h1 O1 A1 _ hb e152 e153 (fun j z => hz j (by omega))
    | succ m ih =>
      intro i h1 O1 A1 hi hb e152 e153 hz hy
      have e145 := (hb.2.2 145 (by decide)).trans e145
      refine ax_iload_n dX12_net_133 rfl ?_
      refine ax_aload_n dX12_net_134 rfl ?_
      refine ax_getf dX12_net_135 flX12_185 e145 rfl ?_
      refine ax_icmp_geF 179 dX12_net_138 (by decide) (nI_ge (by omega) (by omega)) ?_
      refine ax_aload_n dX12_net_141 rfl ?_
      refine ax_getf dX12_net_142 flX12_78 e145 rfl ?_
      refine ax_iload_n dX12_net_145 rfl ?_
      refine ax_aload_n dX12_net_146 rfl ?_
      refine ax_getf dX12_net_147 flX12_78 e145 rfl ?_
      refine ax_sipush dX12_net_150 (v := nI 1100) (by decide) ?_
      refine ax_iload_n dX12_net_153 rfl ?_
      refine ax_iadd dX12_net_154 ?_
      rw [nI_add 1100 i]
      refine ax_iald dX12_net_155 e152 (ax_ix_nI (j := 1100 + i) (by omega) (by decide)) ?_
      refine ax_iast dX12_net_156 e152 (ax_ix_nI (j := i) (by omega) (by decide)) ?_
      refine ax_aload_n dX12_net_157 rfl ?_
      refine ax_getf dX12_net_158 flX12_81 ((ax_wr_ne (by decide)).trans (e145)) rfl ?_
      refine ax_iload_n dX12_net_161 rfl ?_
      refine ax_aload_n dX12_net_162 rfl ?_
      refine ax_getf dX12_net_163 flX12_81 ((ax_wr_ne (by decide)).trans (e145)) rfl ?_
      refine ax_sipush dX12_net_166 (v := nI 1100) (by decide) ?_
      refine ax_iload_n dX12_net_169 rfl ?_
      refine ax_iadd dX12_net_170 ?_
      rw [nI_add 1100 i]
      refine ax_iald dX12_net_171 ((ax_wr_ne (by decide)).trans (e153)) (ax_ix_nI (j := 1100 + i) (by omega) (by decide)) ?_
      refine ax_iast dX12_net_172 ((ax_wr_ne (by decide)).trans (e153)) (ax_ix_nI (j := i) (by omega) (by decide)) ?_
      refine ax_iinc dX12_net_173 rfl (ax_inc 1) ?_
      refine ax_goto 133 dX12_net_176 (by decide) ?_
      rw [nI_add i 1, (hy _ (by omega)).1, (hy _ (by omega)).2]
      refine ih (i + 1) _ _ _ (by omega) ((hb.wr (Or.inl rfl)).wr (Or.inr rfl)) ((ax_wr_ne (by decide)).trans ax_wr_eq) ax_wr_eq (fun j z => ?_) (fun j z => ?_)
      · by_cases e : j = i
        · rw [e]; exact ⟨upd_eq, upd_eq⟩
        · rw [upd_ne e, upd_ne e]; exact hz j (by omega)
      · rw [upd_ne (by omega), upd_ne (by omega)]; exact hy j (by omega)
  refine ax_iconst dX12_net_131 (v := nI 0) (by decide) ?_
  refine ax_istore_n dX12_net_132 (Nat.le_of_ble_eq_true rfl) ?_
  exact loop K 0 h O A (by omega) But.rf e152 e153 (fun j z => absurd z (Nat.not_lt_zero _)) (fun _ _ => ⟨rfl, rfl⟩)
theorem k_ne1 (e145 : h.2.2 145 = some (eM th ta si pt fa co nm rd ask nw os sw bc bm gg)) (e151 : h.2.2 151 = some (eI 168 F)) (hq : ∀ h' F' x, But h h' (fun j => j = 151) → h'.2.2 151 = some (eI 168 F') → (∀ k, k < 84 → F' k = F (84 + k)) → X G d mX12_net 131 [some (.ref 145), some (.int x)] [] h' Q) : X G d mX12_net 102 [some (.ref 145), o] [] h Q := by
  have loop : ∀ (m i : Nat) (h1 : ax_H) (F1 : Nat → Int32), i + m = 84 → But h h1 (fun j => j = 151) → h1.2.2 151 = some (eI 168 F1) → (∀ j, j < i → F1 j = F (84 + j)) → (∀ j, i ≤ j → F1 j = F j) → X G d mX12_net 104 [some (.ref 145), some (.int (nI i))] [] h1 Q := by
    intro m
    induction m with
    | zero =>
      intro i h1 F1 hi hb e151 hz hy
      refine ax_iload_n dX12_net_104 rfl ?_
      refine ax_bipush dX12_net_105 (v := nI 84) (by decide) ?_
      refine ax_icmp_geT 131 dX12_net_107 (by decide) (nI_le (by omega) (by omega)) ?_
      exact hq h1 F1 _ hb e151 (fun j z => hz j (by omega))
    | succ m ih =>
      intro i h1 F1 hi hb e151 hz hy
      have e145 := (hb.2.2 145 (by decide)).trans e145
      refine ax_iload_n dX12_net_104 rfl ?_
      refine ax_bipush dX12_net_105 (v := nI 84) (by decide) ?_
      refine ax_icmp_geF 131 dX12_net_107 (by decide) (nI_ge (by omega) (by omega)) ?_
      refine ax_aload_n dX12_net_110 rfl ?_
      refine ax_getf dX12_net_111 flX12_75 e145 rfl ?_
      refine ax_iload_n dX12_net_114 rfl ?_
      refine ax_aload_n dX12_net_115 rfl ?_
      refine ax_getf dX12_net_116 flX12_75 e145 rfl ?_
      refine ax_bipush dX12_net_119 (v := nI 84) (by decide) ?_
      refine ax_iload_n dX12_net_121 rfl ?_
      refine ax_iadd dX12_net_122 ?_
      rw [nI_add 84 i]
      refine ax_iald dX12_net_123 e151 (ax_ix_nI (j := 84 + i) (by omega) (by decide)) ?_
      refine ax_iast dX12_net_124 e151 (ax_ix_nI (j := i) (by omega) (by decide)) ?_
      refine ax_iinc dX12_net_125 rfl (ax_inc 1) ?_
      refine ax_goto 104 dX12_net_128 (by decide) ?_
      rw [nI_add i 1, hy _ (by omega)]
      refine ih (i + 1) _ _ (by omega) (hb.wr rfl) ax_wr_eq (fun j z => ?_) (fun j z => ?_)
      · by_cases e : j = i
        · rw [e]; exact upd_eq
        · rw [upd_ne e]; exact hz j (by omega)
      · rw [upd_ne (by omega)]; exact hy j (by omega)
  refine ax_iconst dX12_net_102 (v := nI 0) (by decide) ?_
  refine ax_istore_n dX12_net_103 (Nat.le_of_ble_eq_true rfl) ?_
  exact loop 84 0 h F rfl But.rf e151 (fun j z => absurd z (Nat.not_lt_zero _)) (fun _ _ => rfl)
theorem k_ne0 (e145 : h.2.2 145 = some (eM th ta si pt fa co nm rd ask nw os sw bc bm gg)) (e151 : h.2.2 151 = some (eI 168 F)) (hq : ∀ h' F' x, But h h' (fun j => j = 151) → h'.2.2 151 = some (eI 168 F') → (∀ j, j < 84 → F' j = F j) → (∀ j, j < 4 → F' (84 + j) = nI 0) → (∀ j, j < 3 → F' (88 + j) = -1) → X G d mX12_net 58 [some (.ref 145), some (.int x)] [] h' Q) : X G d mX12_net 19 [some (.ref 145), o] [] h Q := by
  have loop : ∀ (m i : Nat) (h1 : ax_H) (F1 : Nat → Int32), i + m = 84 → But h h1 (fun j => j = 151) → h1.2.2 151 = some (eI 168 F1) → (∀ j, j < 84 → F1 j = F j) → (∀ j, j < i → F1 (84 + j) = if 4 ≤ j ∧ j < 7 then -1 else nI 0) → X G d mX12_net 21 [some (.ref 145), some (.int (nI i))] [] h1 Q := by
    intro m
    induction m with
    | zero =>
      intro i h1 F1 hi hb e151 hz hy
      refine ax_iload_n dX12_net_21 rfl ?_
      refine ax_bipush dX12_net_22 (v := nI 84) (by decide) ?_
      refine ax_icmp_geT 58 dX12_net_24 (by decide) (nI_le (by omega) (by omega)) ?_
      refine hq h1 F1 _ hb e151 hz (fun j z => ?_) (fun j z => ?_)
      · rw [hy j (by omega), if_neg (by omega)]
      · rw [show 88 + j = 84 + (4 + j) by omega, hy (4 + j) (by omega), if_pos (by omega)]
    | succ m ih =>
      intro i h1 F1 hi hb e151 hz hy
      have e145 := (hb.2.2 145 (by decide)).trans e145
      have st : ∀ v : Int32, v = (if 4 ≤ i ∧ i < 7 then -1 else nI 0) → X G d mX12_net 51 [some (.ref 145), some (.int (nI i))] [.int v, .int (nI (84 + i)), .ref 151] h1 Q := by
        intro v hv
        refine ax_iast dX12_net_51 e151 (ax_ix_nI (j := 84 + i) (by omega) (by decide)) ?_
        refine ax_iinc dX12_net_52 rfl (ax_inc 1) ?_
        refine ax_goto 21 dX12_net_55 (by decide) ?_
        rw [nI_add i 1]
        refine ih (i + 1) _ _ (by omega) (hb.wr rfl) ax_wr_eq (fun j z => ?_) (fun j z => ?_)
        · rw [upd_ne (by omega)]; exact hz j z
        · by_cases e : j = i
          · rw [e, upd_eq]; exact hv
          · rw [upd_ne (by omega)]; exact hy j (by omega)
      refine ax_iload_n dX12_net_21 rfl ?_
      refine ax_bipush dX12_net_22 (v := nI 84) (by decide) ?_
      refine ax_icmp_geF 58 dX12_net_24 (by decide) (nI_ge (by omega) (by omega)) ?_
      refine ax_aload_n dX12_net_27 rfl ?_
      refine ax_getf dX12_net_28 flX12_75 e145 rfl ?_
      refine ax_bipush dX12_net_31 (v := nI 84) (by decide) ?_
      refine ax_iload_n dX12_net_33 rfl ?_
      refine ax_iadd dX12_net_34 ?_
      rw [nI_add 84 i]
      by_cases h4 : i < 4
      · refine ax_iload_n dX12_net_35 rfl ?_
        refine ax_iconst dX12_net_36 (v := nI 4) (by decide) ?_
        refine ax_icmp_ltT 50 dX12_net_37 (by decide) (nI_lt (by omega) (by omega)) ?_
        refine ax_iconst dX12_net_50 (v := nI 0) (by decide) ?_
        exact st _ (by rw [if_neg (by omega)])
      · refine ax_iload_n dX12_net_35 rfl ?_
        refine ax_iconst dX12_net_36 (v := nI 4) (by decide) ?_
        refine ax_icmp_ltF 50 dX12_net_37 (by decide) (nI_nlt (by omega) (by omega)) ?_
        by_cases h7 : i < 7
        · refine ax_iload_n dX12_net_40 rfl ?_
          refine ax_bipush dX12_net_41 (v := nI 7) (by decide) ?_
          refine ax_icmp_geF 50 dX12_net_43 (by decide) (nI_ge (by omega) (by omega)) ?_
          refine ax_iconst dX12_net_46 (v := -1) (by decide) ?_
          refine ax_goto 51 dX12_net_47 (by decide) ?_
          exact st _ (by rw [if_pos (by omega)])
        · refine ax_iload_n dX12_net_40 rfl ?_
          refine ax_bipush dX12_net_41 (v := nI 7) (by decide) ?_
          refine ax_icmp_geT 50 dX12_net_43 (by decide) (nI_le (by omega) (by omega)) ?_
          refine ax_iconst dX12_net_50 (v := nI 0) (by decide) ?_
          exact st _ (by rw [if_neg (by omega)])
  refine ax_iconst dX12_net_19 (v := nI 0) (by decide) ?_
  refine ax_istore_n dX12_net_20 (Nat.le_of_ble_eq_true rfl) ?_
  exact loop 84 0 h F rfl But.rf e151 (fun _ _ => rfl) (fun j z => absurd z (Nat.not_lt_zero _))
end MNE
