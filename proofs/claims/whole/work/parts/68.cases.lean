section LAWCASES
variable {p : Program} {l : Launch} {e : Env} {s : State} {m : MethodId} {below : List Frame} {meth : Method} {c : Code} {H : Heap} {locs : List Loc} {cells slots : Nat} {Q : State → Prop}
variable {D : va_G} {tc : TC} {dz b L n : Nat} {xs : Nat → Int32} {ad : KN → Nat} {Ks : List KN} {gm : GM} {I : Mem} {ls : Array Slot}
set_option maxHeartbeats 4000000 in
set_option maxRecDepth 100000 in
theorem lc_entry (Z : LX p s m meth c D tc dz b L xs) (h : Sx D (fun q => s.heap.size ≤ q) ad Ks (lay tc ad gm dz I) s H locs) (hl : lv_has ls 8 (lawL ad b n)) (hi : 5 * n + 5 ≤ L) (hL : LV gm Ks) (hC : CAS l D tc dz ad Ks gm I n yL_entry cL_entry 4 [(0, 9, 12, 13), (0, 9, 15, 15)] yX7_entry cX7_entry 3 [.int (xs (5 * n + 1))]) (hcl : cells + 3000 ≤ 601024 ∧ slots + 1100000 ≤ 7293034)
    (kk : ∀ (mc ms : Nat) (ad1 : KN → Nat) (Ks1 : List KN) (gm1 : GM) (I2 : Mem) (H1 : Heap) (locs1 : List Loc) (ls1 : Array Slot), 5 * SG gm + mc ≤ 5 * SG gm1 + 1 → 2111 * SG gm + ms ≤ 2111 * SG gm1 + 6 → LV gm1 Ks1 → LW gm1 Ks1 → GM2 gm1 → LInv I2 gm1 (n + 1) → Sx D (fun q => s.heap.size ≤ q) ad1 Ks1 (lay tc ad1 gm1 dz I2) s H1 locs1 → lv_has ls1 8 (lawL ad1 b n) → W p l e room_1 s m #[Value.ref b] below meth c H1 locs1 (cells + mc) (slots + ms) Q (F0 m 1186 ls1 [])) : W p l e room_1 s m #[Value.ref b] below meth c H locs cells slots Q (F0 m 116 ls []) := by
  obtain ⟨X, -, -, hL25⟩ := id Z
  obtain ⟨hx, hb, hmaxL, hown, hts⟩ := id X.1
  obtain ⟨k, mc, ms, Φ, hw, hrr, hroom, hm1, hm2⟩ := hC
  obtain ⟨hc1, hc2⟩ := hcl
  refine lv_aload_n hx hb dL_law_116 rfl (lv_at hl 4 rfl) ?_
  refine lv_aload_n hx hb dL_law_117 rfl (lv_at hl 5 rfl) ?_
  refine lv_iload hx hb dL_law_118 (lv_at hl 0 rfl) ?_
  refine lv_iconst (v := nI 1) hx hb dL_law_120 (by decide) ?_
  refine n_iadd hx hb dL_law_121 ?_
  refine l_sld Z h (j := 5 * n + 1) (by omega) dL_law_122 ?_
  refine lv_aload_n hx hb dL_law_123 rfl (lv_at hl 2 rfl) ?_
  refine g_doneI X h (x_runSH X h (hw _) q222 q26 q220 q221 ⟨by decide, by decide, by decide +kernel⟩ rfl (by decide) (Nat.le_of_ble_eq_true rfl) ⟨by show cells + mc ≤ 601024; omega, by show slots + ms ≤ 7293034; omega⟩ hl.1 (Nat.le_of_ble_eq_true rfl) dL_law_124 rfl) (fun r u H locs hP h => ?_)
  obtain ⟨rfl, hP⟩ := hP
  obtain ⟨ad1, Ks1, st1⟩ := u
  obtain ⟨gm1, I1, hΦ, hL1, hW1, hG1, hk1, hs1⟩ := hP
  have h : Sx D (fun q => s.heap.size ≤ q) ad1 Ks1 (lay tc ad1 gm1 dz I1) s H locs := h.congr hs1
  obtain ⟨lv, b2, I2, hlv, hM, ht, hb2, hI2⟩ := hrr gm1 I1 hΦ ad1 Ks1 hL1
  obtain ⟨hro1, hro2⟩ := hroom gm1 I1 hΦ
  have ea : lawL ad1 b n = lawL ad b n := by
    have e0 : ad1 (0, 0, 0, 0) = ad (0, 0, 0, 0) := hk1 _ (hL (0, 0, 0, 0) ⟨rfl, rfl, rfl⟩) (by decide)
    have e30 : ad1 (30, 0, 0, 0) = ad (30, 0, 0, 0) := hk1 _ (hL (30, 0, 0, 0) ⟨by decide, rfl, rfl, rfl⟩) (by decide)
    have e50 : ad1 (50, 0, 0, 0) = ad (50, 0, 0, 0) := hk1 _ (hL (50, 0, 0, 0) ⟨by decide, rfl, rfl, rfl⟩) (by decide)
    have e51 : ad1 (51, 0, 0, 0) = ad (51, 0, 0, 0) := hk1 _ (hL (51, 0, 0, 0) ⟨by decide, rfl, rfl, rfl⟩) (by decide)
    unfold lawL
    rw [e0, e30, e50, e51]
  rw [← ea] at hl
  clear ea hk1
  refine lv_istore (lv' := (6, .int (nI k)) :: lawL ad1 b n) hx hb dL_law_127 hl (by decide) rfl (fun ls hl => ?_)
  refine lv_aload_n hx hb dL_law_129 rfl (lv_at hl 4 rfl) ?_
  refine lv_aload_n hx hb dL_law_130 rfl (lv_at hl 6 rfl) ?_
  refine lv_iload hx hb dL_law_131 (lv_at hl 1 rfl) ?_
  refine lv_iconst (v := nI 1) hx hb dL_law_133 (by decide) ?_
  refine n_iadd hx hb dL_law_134 ?_
  refine l_sld Z h (j := 5 * n + 1) (by omega) dL_law_135 ?_
  refine x_doneI X h (x_runV X h (k := (30, 0, 0, 0)) (hM _) F_X7_entry q853 q854 q855 (hL1 (30, 0, 0, 0) ⟨by decide, rfl, rfl, rfl⟩) rfl rfl rfl (by show lv + 1 ≤ 14; omega) (by show 8 + (3 + 11) + 32 * lv ≤ 550; omega) ⟨by show cells + mc + 0 ≤ 601024; omega, by show slots + ms + 0 ≤ 7293034; omega⟩ hl.1 (Nat.le_of_ble_eq_true rfl) dL_law_136 rfl) (fun H locs h => ?_)
  refine lv_istore (lv' := (7, .int b2) :: (6, .int (nI k)) :: lawL ad1 b n) hx hb dL_law_139 hl (by decide) rfl (fun ls hl => ?_)
  refine lv_aload_n hx hb dL_law_141 rfl (lv_at hl 5 rfl) ?_
  refine x_doneI X h (x_runV X h (k := (30, 0, 0, 0)) (m_X7_thrown I2 hL1 _) F_X7_thrown q849 q850 q851 (hL1 (30, 0, 0, 0) ⟨by decide, rfl, rfl, rfl⟩) rfl rfl rfl (by show 0 + 1 ≤ 14; omega) (by show 8 + (1 + 11) + 32 * 0 ≤ 550; omega) ⟨by show cells + mc + 0 + 0 ≤ 601024; omega, by show slots + ms + 0 + 0 ≤ 7293034; omega⟩ hl.1 (Nat.le_of_ble_eq_true rfl) dL_law_142 rfl) (fun H locs h => ?_)
  rw [ht]
  refine lv_iload hx hb dL_law_145 (lv_at hl 1 rfl) ?_
  refine lv_icmp_eq (tgt := 152) hx hb dL_law_147 (by decide) (fun _ => ?_) (fun q => absurd rfl q)
  refine lv_iload hx hb dL_law_152 (lv_at hl 1 rfl) ?_
  refine lv_if_ne (tgt := 169) hx hb dL_law_154 (by decide) (fun _ => ?_) (fun q => ?_)
  · refine lv_goto (tgt := 1186) hx hb dL_law_169 (by decide) ?_
    exact kk mc ms ad1 Ks1 gm1 I2 H locs ls hro1 hro2 hL1 hW1 hG1 hI2 h (lv_sub hl [2, 3, 4, 5, 6, 7] rfl)
  · skip
    refine lv_aload_n hx hb dL_law_157 rfl (lv_at hl 4 rfl) ?_
    refine lv_iconst (v := nI 0) hx hb dL_law_158 (by decide) ?_
    refine o_lald X h (hL1 (50, 0, 0, 0) ⟨by decide, rfl, rfl, rfl⟩) dL_law_159 ?_
    refine lv_iload hx hb dL_law_160 (lv_at hl 0 rfl) ?_
    refine lv_i2l hx hb dL_law_162 rfl ?_
    refine W.lcmp hx hb dL_law_163 ?_
    refine lv_if_eq (tgt := 169) hx hb dL_law_164 (by decide) (fun _ => ?_) (fun q9 => absurd ((lg_cmp_eq _ _).mpr (by rw [hb2 q])) q9)
    refine lv_goto (tgt := 1186) hx hb dL_law_169 (by decide) ?_
    exact kk mc ms ad1 Ks1 gm1 I2 H locs ls hro1 hro2 hL1 hW1 hG1 hI2 h (lv_sub hl [2, 3, 4, 5, 6, 7] rfl)
set_option maxHeartbeats 4000000 in
set_option maxRecDepth 100000 in
theorem lc_tell (Z : LX p s m meth c D tc dz b L xs) (h : Sx D (fun q => s.heap.size ≤ q) ad Ks (lay tc ad gm dz I) s H locs) (hl : lv_has ls 8 (lawL ad b n)) (hi : 5 * n + 5 ≤ L) (hL : LV gm Ks) (hC : CAS l D tc dz ad Ks gm I n yL_tell cL_tell 7 [(0, 14, 17, 13), (0, 14, 21, 21), (0, 14, 25, 15)] yX7_tell cX7_tell 8 [.int (xs (5 * n + 1)), .int (xs (5 * n + 2)), .int (xs (5 * n + 3)), .int (xs (5 * n + 4))]) (hcl : cells + 3000 ≤ 601024 ∧ slots + 1100000 ≤ 7293034)
    (kk : ∀ (mc ms : Nat) (ad1 : KN → Nat) (Ks1 : List KN) (gm1 : GM) (I2 : Mem) (H1 : Heap) (locs1 : List Loc) (ls1 : Array Slot), 5 * SG gm + mc ≤ 5 * SG gm1 + 1 → 2111 * SG gm + ms ≤ 2111 * SG gm1 + 6 → LV gm1 Ks1 → LW gm1 Ks1 → GM2 gm1 → LInv I2 gm1 (n + 1) → Sx D (fun q => s.heap.size ≤ q) ad1 Ks1 (lay tc ad1 gm1 dz I2) s H1 locs1 → lv_has ls1 8 (lawL ad1 b n) → W p l e room_1 s m #[Value.ref b] below meth c H1 locs1 (cells + mc) (slots + ms) Q (F0 m 1186 ls1 [])) : W p l e room_1 s m #[Value.ref b] below meth c H locs cells slots Q (F0 m 172 ls []) := by
  obtain ⟨X, -, -, hL25⟩ := id Z
  obtain ⟨hx, hb, hmaxL, hown, hts⟩ := id X.1
  obtain ⟨k, mc, ms, Φ, hw, hrr, hroom, hm1, hm2⟩ := hC
  obtain ⟨hc1, hc2⟩ := hcl
  refine lv_aload_n hx hb dL_law_172 rfl (lv_at hl 4 rfl) ?_
  refine lv_aload_n hx hb dL_law_173 rfl (lv_at hl 5 rfl) ?_
  refine lv_iload hx hb dL_law_174 (lv_at hl 0 rfl) ?_
  refine lv_iconst (v := nI 1) hx hb dL_law_176 (by decide) ?_
  refine n_iadd hx hb dL_law_177 ?_
  refine l_sld Z h (j := 5 * n + 1) (by omega) dL_law_178 ?_
  refine lv_aload_n hx hb dL_law_179 rfl (lv_at hl 5 rfl) ?_
  refine lv_iload hx hb dL_law_180 (lv_at hl 0 rfl) ?_
  refine lv_iconst (v := nI 2) hx hb dL_law_182 (by decide) ?_
  refine n_iadd hx hb dL_law_183 ?_
  refine l_sld Z h (j := 5 * n + 2) (by omega) dL_law_184 ?_
  refine lv_aload_n hx hb dL_law_185 rfl (lv_at hl 5 rfl) ?_
  refine lv_iload hx hb dL_law_186 (lv_at hl 0 rfl) ?_
  refine lv_iconst (v := nI 3) hx hb dL_law_188 (by decide) ?_
  refine n_iadd hx hb dL_law_189 ?_
  refine l_sld Z h (j := 5 * n + 3) (by omega) dL_law_190 ?_
  refine lv_aload_n hx hb dL_law_191 rfl (lv_at hl 5 rfl) ?_
  refine lv_iload hx hb dL_law_192 (lv_at hl 0 rfl) ?_
  refine lv_iconst (v := nI 4) hx hb dL_law_194 (by decide) ?_
  refine n_iadd hx hb dL_law_195 ?_
  refine l_sld Z h (j := 5 * n + 4) (by omega) dL_law_196 ?_
  refine lv_aload_n hx hb dL_law_197 rfl (lv_at hl 2 rfl) ?_
  refine g_doneI X h (x_runSH X h (hw _) q343 q26 q341 q342 ⟨by decide, by decide, by decide +kernel⟩ rfl (by decide) (Nat.le_of_ble_eq_true rfl) ⟨by show cells + mc ≤ 601024; omega, by show slots + ms ≤ 7293034; omega⟩ hl.1 (Nat.le_of_ble_eq_true rfl) dL_law_198 rfl) (fun r u H locs hP h => ?_)
  obtain ⟨rfl, hP⟩ := hP
  obtain ⟨ad1, Ks1, st1⟩ := u
  obtain ⟨gm1, I1, hΦ, hL1, hW1, hG1, hk1, hs1⟩ := hP
  have h : Sx D (fun q => s.heap.size ≤ q) ad1 Ks1 (lay tc ad1 gm1 dz I1) s H locs := h.congr hs1
  obtain ⟨lv, b2, I2, hlv, hM, ht, hb2, hI2⟩ := hrr gm1 I1 hΦ ad1 Ks1 hL1
  obtain ⟨hro1, hro2⟩ := hroom gm1 I1 hΦ
  have ea : lawL ad1 b n = lawL ad b n := by
    have e0 : ad1 (0, 0, 0, 0) = ad (0, 0, 0, 0) := hk1 _ (hL (0, 0, 0, 0) ⟨rfl, rfl, rfl⟩) (by decide)
    have e30 : ad1 (30, 0, 0, 0) = ad (30, 0, 0, 0) := hk1 _ (hL (30, 0, 0, 0) ⟨by decide, rfl, rfl, rfl⟩) (by decide)
    have e50 : ad1 (50, 0, 0, 0) = ad (50, 0, 0, 0) := hk1 _ (hL (50, 0, 0, 0) ⟨by decide, rfl, rfl, rfl⟩) (by decide)
    have e51 : ad1 (51, 0, 0, 0) = ad (51, 0, 0, 0) := hk1 _ (hL (51, 0, 0, 0) ⟨by decide, rfl, rfl, rfl⟩) (by decide)
    unfold lawL
    rw [e0, e30, e50, e51]
  rw [← ea] at hl
  clear ea hk1
  refine lv_istore (lv' := (6, .int (nI k)) :: lawL ad1 b n) hx hb dL_law_201 hl (by decide) rfl (fun ls hl => ?_)
  refine lv_aload_n hx hb dL_law_203 rfl (lv_at hl 4 rfl) ?_
  refine lv_aload_n hx hb dL_law_204 rfl (lv_at hl 6 rfl) ?_
  refine lv_iload hx hb dL_law_205 (lv_at hl 1 rfl) ?_
  refine lv_iconst (v := nI 1) hx hb dL_law_207 (by decide) ?_
  refine n_iadd hx hb dL_law_208 ?_
  refine l_sld Z h (j := 5 * n + 1) (by omega) dL_law_209 ?_
  refine lv_aload_n hx hb dL_law_210 rfl (lv_at hl 6 rfl) ?_
  refine lv_iload hx hb dL_law_211 (lv_at hl 1 rfl) ?_
  refine lv_iconst (v := nI 2) hx hb dL_law_213 (by decide) ?_
  refine n_iadd hx hb dL_law_214 ?_
  refine l_sld Z h (j := 5 * n + 2) (by omega) dL_law_215 ?_
  refine lv_aload_n hx hb dL_law_216 rfl (lv_at hl 6 rfl) ?_
  refine lv_iload hx hb dL_law_217 (lv_at hl 1 rfl) ?_
  refine lv_iconst (v := nI 3) hx hb dL_law_219 (by decide) ?_
  refine n_iadd hx hb dL_law_220 ?_
  refine l_sld Z h (j := 5 * n + 3) (by omega) dL_law_221 ?_
  refine lv_aload_n hx hb dL_law_222 rfl (lv_at hl 6 rfl) ?_
  refine lv_iload hx hb dL_law_223 (lv_at hl 1 rfl) ?_
  refine lv_iconst (v := nI 4) hx hb dL_law_225 (by decide) ?_
  refine n_iadd hx hb dL_law_226 ?_
  refine l_sld Z h (j := 5 * n + 4) (by omega) dL_law_227 ?_
  refine x_doneI X h (x_runV X h (k := (30, 0, 0, 0)) (hM _) F_X7_tell q870 q871 q872 (hL1 (30, 0, 0, 0) ⟨by decide, rfl, rfl, rfl⟩) rfl rfl rfl (by show lv + 1 ≤ 14; omega) (by show 8 + (8 + 11) + 32 * lv ≤ 550; omega) ⟨by show cells + mc + 0 ≤ 601024; omega, by show slots + ms + 0 ≤ 7293034; omega⟩ hl.1 (Nat.le_of_ble_eq_true rfl) dL_law_228 rfl) (fun H locs h => ?_)
  refine lv_istore (lv' := (7, .int b2) :: (6, .int (nI k)) :: lawL ad1 b n) hx hb dL_law_231 hl (by decide) rfl (fun ls hl => ?_)
  refine lv_aload_n hx hb dL_law_233 rfl (lv_at hl 5 rfl) ?_
  refine x_doneI X h (x_runV X h (k := (30, 0, 0, 0)) (m_X7_thrown I2 hL1 _) F_X7_thrown q849 q850 q851 (hL1 (30, 0, 0, 0) ⟨by decide, rfl, rfl, rfl⟩) rfl rfl rfl (by show 0 + 1 ≤ 14; omega) (by show 8 + (1 + 11) + 32 * 0 ≤ 550; omega) ⟨by show cells + mc + 0 + 0 ≤ 601024; omega, by show slots + ms + 0 + 0 ≤ 7293034; omega⟩ hl.1 (Nat.le_of_ble_eq_true rfl) dL_law_234 rfl) (fun H locs h => ?_)
  rw [ht]
  refine lv_iload hx hb dL_law_237 (lv_at hl 1 rfl) ?_
  refine lv_icmp_eq (tgt := 244) hx hb dL_law_239 (by decide) (fun _ => ?_) (fun q => absurd rfl q)
  refine lv_iload hx hb dL_law_244 (lv_at hl 1 rfl) ?_
  refine lv_if_ne (tgt := 261) hx hb dL_law_246 (by decide) (fun _ => ?_) (fun q => ?_)
  · refine lv_goto (tgt := 1186) hx hb dL_law_261 (by decide) ?_
    exact kk mc ms ad1 Ks1 gm1 I2 H locs ls hro1 hro2 hL1 hW1 hG1 hI2 h (lv_sub hl [2, 3, 4, 5, 6, 7] rfl)
  · skip
    refine lv_aload_n hx hb dL_law_249 rfl (lv_at hl 4 rfl) ?_
    refine lv_iconst (v := nI 0) hx hb dL_law_250 (by decide) ?_
    refine o_lald X h (hL1 (50, 0, 0, 0) ⟨by decide, rfl, rfl, rfl⟩) dL_law_251 ?_
    refine lv_iload hx hb dL_law_252 (lv_at hl 0 rfl) ?_
    refine lv_i2l hx hb dL_law_254 rfl ?_
    refine W.lcmp hx hb dL_law_255 ?_
    refine lv_if_eq (tgt := 261) hx hb dL_law_256 (by decide) (fun _ => ?_) (fun q9 => absurd ((lg_cmp_eq _ _).mpr (by rw [hb2 q])) q9)
    refine lv_goto (tgt := 1186) hx hb dL_law_261 (by decide) ?_
    exact kk mc ms ad1 Ks1 gm1 I2 H locs ls hro1 hro2 hL1 hW1 hG1 hI2 h (lv_sub hl [2, 3, 4, 5, 6, 7] rfl)
set_option maxHeartbeats 4000000 in
set_option maxRecDepth 100000 in
theorem lc_agreement (Z : LX p s m meth c D tc dz b L xs) (h : Sx D (fun q => s.heap.size ≤ q) ad Ks (lay tc ad gm dz I) s H locs) (hl : lv_has ls 8 (lawL ad b n)) (hi : 5 * n + 5 ≤ L) (hL : LV gm Ks) (hC : CAF l D tc dz ad Ks gm I n yL_agreement cL_agreement 5 [(0, 10, 13, 13)] yX7_agreement cX7_agreement 8 [.int (xs (5 * n + 1)), .int (xs (5 * n + 2))]) (hcl : cells + 3000 ≤ 601024 ∧ slots + 1100000 ≤ 7293034)
    (kk : ∀ (mc ms : Nat) (ad1 : KN → Nat) (Ks1 : List KN) (gm1 : GM) (I2 : Mem) (H1 : Heap) (locs1 : List Loc) (ls1 : Array Slot), 5 * SG gm + mc ≤ 5 * SG gm1 + 1 → 2111 * SG gm + ms ≤ 2111 * SG gm1 + 6 → LV gm1 Ks1 → LW gm1 Ks1 → GM2 gm1 → LInv I2 gm1 (n + 1) → Sx D (fun q => s.heap.size ≤ q) ad1 Ks1 (lay tc ad1 gm1 dz I2) s H1 locs1 → lv_has ls1 8 (lawL ad1 b n) → W p l e room_1 s m #[Value.ref b] below meth c H1 locs1 (cells + mc) (slots + ms) Q (F0 m 1186 ls1 [])) : W p l e room_1 s m #[Value.ref b] below meth c H locs cells slots Q (F0 m 1096 ls []) := by
  obtain ⟨X, -, -, hL25⟩ := id Z
  obtain ⟨hx, hb, hmaxL, hown, hts⟩ := id X.1
  obtain ⟨k, mc, ms, Φ, hw, hrr, hroom, hm1, hm2⟩ := hC
  obtain ⟨hc1, hc2⟩ := hcl
  refine lv_aload_n hx hb dL_law_1096 rfl (lv_at hl 4 rfl) ?_
  refine lv_aload_n hx hb dL_law_1097 rfl (lv_at hl 5 rfl) ?_
  refine lv_iload hx hb dL_law_1098 (lv_at hl 0 rfl) ?_
  refine lv_iconst (v := nI 1) hx hb dL_law_1100 (by decide) ?_
  refine n_iadd hx hb dL_law_1101 ?_
  refine l_sld Z h (j := 5 * n + 1) (by omega) dL_law_1102 ?_
  refine lv_aload_n hx hb dL_law_1103 rfl (lv_at hl 5 rfl) ?_
  refine lv_iload hx hb dL_law_1104 (lv_at hl 0 rfl) ?_
  refine lv_iconst (v := nI 2) hx hb dL_law_1106 (by decide) ?_
  refine n_iadd hx hb dL_law_1107 ?_
  refine l_sld Z h (j := 5 * n + 2) (by omega) dL_law_1108 ?_
  refine lv_aload hx hb dL_law_1109 (lv_at hl 1 rfl) ?_
  refine g_doneI X h (x_runSH X h (hw _) q758 q26 q756 q757 ⟨by decide, by decide, by decide +kernel⟩ rfl (by decide) (Nat.le_of_ble_eq_true rfl) ⟨by show cells + mc ≤ 601024; omega, by show slots + ms ≤ 7293034; omega⟩ hl.1 (Nat.le_of_ble_eq_true rfl) dL_law_1111 rfl) (fun r u H locs hP h => ?_)
  obtain ⟨rfl, hP⟩ := hP
  obtain ⟨ad1, Ks1, st1⟩ := u
  obtain ⟨gm1, I1, hΦ, hL1, hW1, hG1, hk1, hs1⟩ := hP
  have h : Sx D (fun q => s.heap.size ≤ q) ad1 Ks1 (lay tc ad1 gm1 dz I1) s H locs := h.congr hs1
  obtain ⟨lv, b2, I2, hlv, hM, ht, hb2, hI2⟩ := hrr gm1 I1 hΦ ad1 Ks1 hL1
  obtain ⟨hro1, hro2⟩ := hroom gm1 I1 hΦ
  have ea : lawL ad1 b n = lawL ad b n := by
    have e0 : ad1 (0, 0, 0, 0) = ad (0, 0, 0, 0) := hk1 _ (hL (0, 0, 0, 0) ⟨rfl, rfl, rfl⟩) (by decide)
    have e30 : ad1 (30, 0, 0, 0) = ad (30, 0, 0, 0) := hk1 _ (hL (30, 0, 0, 0) ⟨by decide, rfl, rfl, rfl⟩) (by decide)
    have e50 : ad1 (50, 0, 0, 0) = ad (50, 0, 0, 0) := hk1 _ (hL (50, 0, 0, 0) ⟨by decide, rfl, rfl, rfl⟩) (by decide)
    have e51 : ad1 (51, 0, 0, 0) = ad (51, 0, 0, 0) := hk1 _ (hL (51, 0, 0, 0) ⟨by decide, rfl, rfl, rfl⟩) (by decide)
    unfold lawL
    rw [e0, e30, e50, e51]
  rw [← ea] at hl
  clear ea hk1
  refine lv_istore (lv' := (6, .int (nI k)) :: lawL ad1 b n) hx hb dL_law_1114 hl (by decide) rfl (fun ls hl => ?_)
  refine lv_aload_n hx hb dL_law_1116 rfl (lv_at hl 4 rfl) ?_
  refine lv_aload_n hx hb dL_law_1117 rfl (lv_at hl 6 rfl) ?_
  refine lv_iload hx hb dL_law_1118 (lv_at hl 1 rfl) ?_
  refine lv_iconst (v := nI 1) hx hb dL_law_1120 (by decide) ?_
  refine n_iadd hx hb dL_law_1121 ?_
  refine l_sld Z h (j := 5 * n + 1) (by omega) dL_law_1122 ?_
  refine lv_aload_n hx hb dL_law_1123 rfl (lv_at hl 6 rfl) ?_
  refine lv_iload hx hb dL_law_1124 (lv_at hl 1 rfl) ?_
  refine lv_iconst (v := nI 2) hx hb dL_law_1126 (by decide) ?_
  refine n_iadd hx hb dL_law_1127 ?_
  refine l_sld Z h (j := 5 * n + 2) (by omega) dL_law_1128 ?_
  refine x_doneF X h (x_runV X h (k := (30, 0, 0, 0)) (hM _) F_X7_agreement q1003 q1004 q1005 (hL1 (30, 0, 0, 0) ⟨by decide, rfl, rfl, rfl⟩) rfl rfl rfl (by show lv + 1 ≤ 14; omega) (by show 8 + (8 + 11) + 32 * lv ≤ 550; omega) ⟨by show cells + mc + 0 ≤ 601024; omega, by show slots + ms + 0 ≤ 7293034; omega⟩ hl.1 (Nat.le_of_ble_eq_true rfl) dL_law_1129 rfl) (fun H locs h => ?_)
  refine lv_fstore (lv' := (7, .float b2) :: (6, .int (nI k)) :: lawL ad1 b n) hx hb dL_law_1132 hl (by decide) rfl (fun ls hl => ?_)
  refine lv_aload_n hx hb dL_law_1134 rfl (lv_at hl 5 rfl) ?_
  refine x_doneI X h (x_runV X h (k := (30, 0, 0, 0)) (m_X7_thrown I2 hL1 _) F_X7_thrown q849 q850 q851 (hL1 (30, 0, 0, 0) ⟨by decide, rfl, rfl, rfl⟩) rfl rfl rfl (by show 0 + 1 ≤ 14; omega) (by show 8 + (1 + 11) + 32 * 0 ≤ 550; omega) ⟨by show cells + mc + 0 + 0 ≤ 601024; omega, by show slots + ms + 0 + 0 ≤ 7293034; omega⟩ hl.1 (Nat.le_of_ble_eq_true rfl) dL_law_1135 rfl) (fun H locs h => ?_)
  rw [ht]
  refine lv_iload hx hb dL_law_1138 (lv_at hl 1 rfl) ?_
  refine lv_icmp_eq (tgt := 1145) hx hb dL_law_1140 (by decide) (fun _ => ?_) (fun q => absurd rfl q)
  refine lv_iload hx hb dL_law_1145 (lv_at hl 1 rfl) ?_
  refine lv_if_ne (tgt := 1183) hx hb dL_law_1147 (by decide) (fun _ => ?_) (fun q => ?_)
  · refine lv_goto (tgt := 1186) hx hb dL_law_1183 (by decide) ?_
    exact kk mc ms ad1 Ks1 gm1 I2 H locs ls hro1 hro2 hL1 hW1 hG1 hI2 h (lv_sub hl [2, 3, 4, 5, 6, 7] rfl)
  · skip
    refine lv_aload hx hb dL_law_1150 (lv_at hl 3 rfl) ?_
    refine lv_iconst (v := nI 0) hx hb dL_law_1152 (by decide) ?_
    obtain ⟨hn1, hn2, hn3⟩ := hb2 q
    refine o_dald X h (hL1 (51, 0, 0, 0) ⟨by decide, rfl, rfl, rfl⟩) dL_law_1153 ?_
    refine lv_fload hx hb dL_law_1154 (lv_at hl 0 rfl) ?_
    refine lv_f2d hx hb dL_law_1156 hn1 ?_
    refine lv_dcmp hx hb dL_law_1157 ?_
    refine lv_if_eq (tgt := 1183) hx hb dL_law_1158 (by decide) (fun _ => ?_) (fun q9 => absurd (by rw [hn3, hn2]; rfl) q9)
    refine lv_goto (tgt := 1186) hx hb dL_law_1183 (by decide) ?_
    exact kk mc ms ad1 Ks1 gm1 I2 H locs ls hro1 hro2 hL1 hW1 hG1 hI2 h (lv_sub hl [2, 3, 4, 5, 6, 7] rfl)
end LAWCASES
