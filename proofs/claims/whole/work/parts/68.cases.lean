section LAWCASES
variable {p : Program} {l : Launch} {e : Env} {s : State} {m : MethodId} {below : List Frame} {meth : Method} {c : Code} {H : Heap} {locs : List Loc} {cells slots : Nat} {Q : State → Prop}
variable {D : va_G} {tc : TC} {dz b L n : Nat} {xs : Nat → Int32} {ad : KN → Nat} {Ks : List KN} {gm : GM} {I : Mem} {ls : Array Slot}
set_option maxHeartbeats 4000000 in
set_option maxRecDepth 100000 in
theorem lc_entry (Z : LX p s m meth c D tc dz b L xs) (h : Sx D (fun q => s.heap.size ≤ q) ad Ks (lay tc ad gm dz I) s H locs) (hl : lv_has ls 8 (lawL ad b n)) (hi : 5 * n + 5 ≤ L) (hL : LV gm Ks) (hC : CAS l D tc dz ad Ks gm I n yL_entry cL_entry 4 [(0, 9, 12, 13), (0, 9, 15, 15)] yX7_entry cX7_entry 3 [.int (xs (5 * n + 1))]) (hcl : cells + 3000 ≤ 601024 ∧ slots + 1100000 ≤ 7293034)
    (kk : ∀ (mc ms : Nat) (ad1 : KN → Nat) (Ks1 : List KN) (gm1 : GM) (I2 : Mem) (H1 : Heap) (locs1 : List Loc) (ls1 : Array Slot), 5 * SG gm + mc ≤ 5 * SG gm1 + 1 → 2111 * SG gm + ms ≤ 2111 * SG gm1 + 6 → LV gm1 Ks1 → LW gm1 Ks1 → GM2 gm1 → LInv I2 gm1 (n + 1) → Sx D (fun q => s.heap.size ≤ q) ad1 Ks1 (lay tc ad1 gm1 dz I2) s H1 locs1 → lv_has ls1 8 (lawL ad1 b n) → W p l e room_1 s m #[Value.ref b] below meth c H1 locs1 (cells + mc) (slots + ms) Q (F0 m 1186 ls1 [])) : W p l e room_1 s m #[Value.ref b] below meth c H locs cells slots Q (F0 m 116 ls []) := by
  obtain ⟨X, -, -, hL25⟩ := id Z
  obtain ⟨hx, hb, hmaxL, hown, hts⟩ := id X.1
  obtain ⟨k, mc, ms, Φ, hw, hrr, hroom, hm1, hm2⟩ := hC
  obtain ⟨hc1, hc2⟩ := hcl
  refine lv_aload_n hx hb dL_law_116 rfl (lv_at hl 4 rfl) ?_
  refine lv_aload_n hx hb dL_law_117 rfl (lv_at hl 5 rfl) ?_
  refine lv_iload hx hb dL_law_118 (lv_at hl 0 rfl) ?_
  refine lv_iconst (v := nI 1) hx hb dL_law_120 (by decide) ?_
  refine n_iadd hx hb dL_law_121 ?_
  refine l_sld Z h (j := 5 * n + 1) (by omega) dL_law_122 ?_
  refine lv_aload_n hx hb dL_law_123 rfl (lv_at hl 2 rfl) ?_
  refine g_doneI X h (x_runSH (n := 3) X h (hw _) q222 q26 q220 q221 ⟨by decide, by decide, by decide +kernel⟩ rfl (by decide) (Nat.le_of_ble_eq_true rfl) ⟨by show cells + mc ≤ 601024; omega, by show slots + ms ≤ 7293034; omega⟩ hl.1 (Nat.le_of_ble_eq_true rfl) dL_law_124 rfl) (fun r u H locs hP h => ?_)
  obtain ⟨rfl, hP⟩ := hP
  obtain ⟨ad1, Ks1, st1⟩ := u
  obtain ⟨gm1, I1, hΦ, hL1, hW1, hG1, hk1, hs1⟩ := hP
  have h : Sx D (fun q => s.heap.size ≤ q) ad1 Ks1 (lay tc ad1 gm1 dz I1) s H locs := h.congr hs1
  obtain ⟨lv, b2, I2, hlv, hM, ht, hb2, hI2⟩ := hrr gm1 I1 hΦ ad1 Ks1 hL1
  obtain ⟨hro1, hro2⟩ := hroom gm1 I1 hΦ
  have ea : lawL ad1 b n = lawL ad b n := by
    have e0 : ad1 (0, 0, 0, 0) = ad (0, 0, 0, 0) := hk1 _ (hL (0, 0, 0, 0) ⟨rfl, rfl, rfl⟩) (by decide)
    have e30 : ad1 (30, 0, 0, 0) = ad (30, 0, 0, 0) := hk1 _ (hL (30, 0, 0, 0) ⟨by decide, rfl, rfl, rfl⟩) (by decide)
    have e50 : ad1 (50, 0, 0, 0) = ad (50, 0, 0, 0) := hk1 _ (hL (50, 0, 0, 0) ⟨by decide, rfl, rfl, rfl⟩) (by decide)
    have e51 : ad1 (51, 0, 0, 0) = ad (51, 0, 0, 0) := hk1 _ (hL (51, 0, 0, 0) ⟨by decide, rfl, rfl, rfl⟩) (by decide)
    unfold lawL
    rw [e0, e30, e50, e51]
  rw [← ea] at hl
  clear ea hk1
  refine lv_istore (lv' := (6, .int (nI k)) :: lawL ad1 b n) hx hb dL_law_127 hl (by decide) rfl (fun ls hl => ?_)
  refine lv_aload_n hx hb dL_law_129 rfl (lv_at hl 4 rfl) ?_
  refine lv_aload_n hx hb dL_law_130 rfl (lv_at hl 6 rfl) ?_
  refine lv_iload hx hb dL_law_131 (lv_at hl 1 rfl) ?_
  refine lv_iconst (v := nI 1) hx hb dL_law_133 (by decide) ?_
  refine n_iadd hx hb dL_law_134 ?_
  refine l_sld Z h (j := 5 * n + 1) (by omega) dL_law_135 ?_
  refine x_doneI X h (x_runV X h (k := (30, 0, 0, 0)) (hM _) F_X7_entry q853 q854 q855 (hL1 (30, 0, 0, 0) ⟨by decide, rfl, rfl, rfl⟩) rfl rfl rfl (by show lv + 1 ≤ 14; omega) (by show 8 + (3 + 11) + 32 * lv ≤ 550; omega) ⟨by show cells + mc + 0 ≤ 601024; omega, by show slots + ms + 0 ≤ 7293034; omega⟩ hl.1 (Nat.le_of_ble_eq_true rfl) dL_law_136 rfl) (fun H locs h => ?_)
  refine lv_istore (lv' := (7, .int b2) :: (6, .int (nI k)) :: lawL ad1 b n) hx hb dL_law_139 hl (by decide) rfl (fun ls hl => ?_)
  refine lv_aload_n hx hb dL_law_141 rfl (lv_at hl 5 rfl) ?_
  refine x_doneI X h (x_runV X h (k := (30, 0, 0, 0)) (m_X7_thrown I2 hL1 _) F_X7_thrown q849 q850 q851 (hL1 (30, 0, 0, 0) ⟨by decide, rfl, rfl, rfl⟩) rfl rfl rfl (by show 0 + 1 ≤ 14; omega) (by show 8 + (1 + 11) + 32 * 0 ≤ 550; omega) ⟨by show cells + mc + 0 + 0 ≤ 601024; omega, by show slots + ms + 0 + 0 ≤ 7293034; omega⟩ hl.1 (Nat.le_of_ble_eq_true rfl) dL_law_142 rfl) (fun H locs h => ?_)
  rw [ht]
  refine lv_iload hx hb dL_law_145 (lv_at hl 1 rfl) ?_
  refine lv_icmp_eq (tgt := 152) hx hb dL_law_147 (by decide) (fun _ => ?_) (fun q => absurd rfl q)
  refine lv_iload hx hb dL_law_152 (lv_at hl 1 rfl) ?_
  refine lv_if_ne (tgt := 169) hx hb dL_law_154 (by decide) (fun _ => ?_) (fun q => ?_)
  · refine lv_goto (tgt := 1186) hx hb dL_law_169 (by decide) ?_
    exact kk mc ms ad1 Ks1 gm1 I2 H locs ls hro1 hro2 hL1 hW1 hG1 hI2 h (lv_sub hl [2, 3, 4, 5, 6, 7] rfl)
  · skip
    refine lv_aload_n hx hb dL_law_157 rfl (lv_at hl 4 rfl) ?_
    refine lv_iconst (v := nI 0) hx hb dL_law_158 (by decide) ?_
    refine o_lald X h (hL1 (50, 0, 0, 0) ⟨by decide, rfl, rfl, rfl⟩) dL_law_159 ?_
    refine lv_iload hx hb dL_law_160 (lv_at hl 0 rfl) ?_
    refine lv_i2l hx hb dL_law_162 rfl ?_
    refine W.lcmp hx hb dL_law_163 ?_
    refine lv_if_eq (tgt := 169) hx hb dL_law_164 (by decide) (fun _ => ?_) (fun q9 => absurd ((lg_cmp_eq _ _).mpr (by rw [hb2 q])) q9)
    refine lv_goto (tgt := 1186) hx hb dL_law_169 (by decide) ?_
    exact kk mc ms ad1 Ks1 gm1 I2 H locs ls hro1 hro2 hL1 hW1 hG1 hI2 h (lv_sub hl [2, 3, 4, 5, 6, 7] rfl)
set_option maxHeartbeats 4000000 in
set_option maxRecDepth 100000 in
theorem lc_tell (Z : LX p s m meth c D tc dz b L xs) (h : Sx D (fun q => s.heap.size ≤ q) ad Ks (lay tc ad gm dz I) s H locs) (hl : lv_has ls 8 (lawL ad b n)) (hi : 5 * n + 5 ≤ L) (hL : LV gm Ks) (hC : CAS l D tc dz ad Ks gm I n yL_tell cL_tell 7 [(0, 14, 17, 13), (0, 14, 21, 21), (0, 14, 25, 15)] yX7_tell cX7_tell 8 [.int (xs (5 * n + 1)), .int (xs (5 * n + 2)), .int (xs (5 * n + 3)), .int (xs (5 * n + 4))]) (hcl : cells + 3000 ≤ 601024 ∧ slots + 1100000 ≤ 7293034)
    (kk : ∀ (mc ms : Nat) (ad1 : KN → Nat) (Ks1 : List KN) (gm1 : GM) (I2 : Mem) (H1 : Heap) (locs1 : List Loc) (ls1 : Array Slot), 5 * SG gm + mc ≤ 5 * SG gm1 + 1 → 2111 * SG gm + ms ≤ 2111 * SG gm1 + 6 → LV gm1 Ks1 → LW gm1 Ks1 → GM2 gm1 → LInv I2 gm1 (n + 1) → Sx D (fun q => s.heap.size ≤ q) ad1 Ks1 (lay tc ad1 gm1 dz I2) s H1 locs1 → lv_has ls1 8 (lawL ad1 b n) → W p l e room_1 s m #[Value.ref b] below meth c H1 locs1 (cells + mc) (slots + ms) Q (F0 m 1186 ls1 [])) : W p l e room_1 s m #[Value.ref b] below meth c H locs cells slots Q (F0 m 172 ls []) := by
  obtain ⟨X, -, -, hL25⟩ := id Z
  obtain ⟨hx, hb, hmaxL, hown, hts⟩ := id X.1
  obtain ⟨k, mc, ms, Φ, hw, hrr, hroom, hm1, hm2⟩ := hC
  obtain ⟨hc1, hc2⟩ := hcl
  refine lv_aload_n hx hb dL_law_172 rfl (lv_at hl 4 rfl) ?_
  refine lv_aload_n hx hb dL_law_173 rfl (lv_at hl 5 rfl) ?_
  refine lv_iload hx hb dL_law_174 (lv_at hl 0 rfl) ?_
  refine lv_iconst (v := nI 1) hx hb dL_law_176 (by decide) ?_
  refine n_iadd hx hb dL_law_177 ?_
  refine l_sld Z h (j := 5 * n + 1) (by omega) dL_law_178 ?_
  refine lv_aload_n hx hb dL_law_179 rfl (lv_at hl 5 rfl) ?_
  refine lv_iload hx hb dL_law_180 (lv_at hl 0 rfl) ?_
  refine lv_iconst (v := nI 2) hx hb dL_law_182 (by decide) ?_
  refine n_iadd hx hb dL_law_183 ?_
  refine l_sld Z h (j := 5 * n + 2) (by omega) dL_law_184 ?_
  refine lv_aload_n hx hb dL_law_185 rfl (lv_at hl 5 rfl) ?_
  refine lv_iload hx hb dL_law_186 (lv_at hl 0 rfl) ?_
  refine lv_iconst (v := nI 3) hx hb dL_law_188 (by decide) ?_
  refine n_iadd hx hb dL_law_189 ?_
  refine l_sld Z h (j := 5 * n + 3) (by omega) dL_law_190 ?_
  refine lv_aload_n hx hb dL_law_191 rfl (lv_at hl 5 rfl) ?_
  refine lv_iload hx hb dL_law_192 (lv_at hl 0 rfl) ?_
  refine lv_iconst (v := nI 4) hx hb dL_law_194 (by decide) ?_
  refine n_iadd hx hb dL_law_195 ?_
  refine l_sld Z h (j := 5 * n + 4) (by omega) dL_law_196 ?_
  refine lv_aload_n hx hb dL_law_197 rfl (lv_at hl 2 rfl) ?_
  refine g_doneI X h (x_runSH (n := 6) X h (hw _) q343 q26 q341 q342 ⟨by decide, by decide, by decide +kernel⟩ rfl (by decide) (Nat.le_of_ble_eq_true rfl) ⟨by show cells + mc ≤ 601024; omega, by show slots + ms ≤ 7293034; omega⟩ hl.1 (Nat.le_of_ble_eq_true rfl) dL_law_198 rfl) (fun r u H locs hP h => ?_)
  obtain ⟨rfl, hP⟩ := hP
  obtain ⟨ad1, Ks1, st1⟩ := u
  obtain ⟨gm1, I1, hΦ, hL1, hW1, hG1, hk1, hs1⟩ := hP
  have h : Sx D (fun q => s.heap.size ≤ q) ad1 Ks1 (lay tc ad1 gm1 dz I1) s H locs := h.congr hs1
  obtain ⟨lv, b2, I2, hlv, hM, ht, hb2, hI2⟩ := hrr gm1 I1 hΦ ad1 Ks1 hL1
  obtain ⟨hro1, hro2⟩ := hroom gm1 I1 hΦ
  have ea : lawL ad1 b n = lawL ad b n := by
    have e0 : ad1 (0, 0, 0, 0) = ad (0, 0, 0, 0) := hk1 _ (hL (0, 0, 0, 0) ⟨rfl, rfl, rfl⟩) (by decide)
    have e30 : ad1 (30, 0, 0, 0) = ad (30, 0, 0, 0) := hk1 _ (hL (30, 0, 0, 0) ⟨by decide, rfl, rfl, rfl⟩) (by decide)
    have e50 : ad1 (50, 0, 0, 0) = ad (50, 0, 0, 0) := hk1 _ (hL (50, 0, 0, 0) ⟨by decide, rfl, rfl, rfl⟩) (by decide)
    have e51 : ad1 (51, 0, 0, 0) = ad (51, 0, 0, 0) := hk1 _ (hL (51, 0, 0, 0) ⟨by decide, rfl, rfl, rfl⟩) (by decide)
    unfold lawL
    rw [e0, e30, e50, e51]
  rw [← ea] at hl
  clear ea hk1
  refine lv_istore (lv' := (6, .int (nI k)) :: lawL ad1 b n) hx hb dL_law_201 hl (by decide) rfl (fun ls hl => ?_)
  refine lv_aload_n hx hb dL_law_203 rfl (lv_at hl 4 rfl) ?_
  refine lv_aload_n hx hb dL_law_204 rfl (lv_at hl 6 rfl) ?_
  refine lv_iload hx hb dL_law_205 (lv_at hl 1 rfl) ?_
  refine lv_iconst (v := nI 1) hx hb dL_law_207 (by decide) ?_
  refine n_iadd hx hb dL_law_208 ?_
  refine l_sld Z h (j := 5 * n + 1) (by omega) dL_law_209 ?_
  refine lv_aload_n hx hb dL_law_210 rfl (lv_at hl 6 rfl) ?_
  refine lv_iload hx hb dL_law_211 (lv_at hl 1 rfl) ?_
  refine lv_iconst (v := nI 2) hx hb dL_law_213 (by decide) ?_
  refine n_iadd hx hb dL_law_214 ?_
  refine l_sld Z h (j := 5 * n + 2) (by omega) dL_law_215 ?_
  refine lv_aload_n hx hb dL_law_216 rfl (lv_at hl 6 rfl) ?_
  refine lv_iload hx hb dL_law_217 (lv_at hl 1 rfl) ?_
  refine lv_iconst (v := nI 3) hx hb dL_law_219 (by decide) ?_
  refine n_iadd hx hb dL_law_220 ?_
  refine l_sld Z h (j := 5 * n + 3) (by omega) dL_law_221 ?_
  refine lv_aload_n hx hb dL_law_222 rfl (lv_at hl 6 rfl) ?_
  refine lv_iload hx hb dL_law_223 (lv_at hl 1 rfl) ?_
  refine lv_iconst (v := nI 4) hx hb dL_law_225 (by decide) ?_
  refine n_iadd hx hb dL_law_226 ?_
  refine l_sld Z h (j := 5 * n + 4) (by omega) dL_law_227 ?_
  refine x_doneI X h (x_runV X h (k := (30, 0, 0, 0)) (hM _) F_X7_tell q870 q871 q872 (hL1 (30, 0, 0, 0) ⟨by decide, rfl, rfl, rfl⟩) rfl rfl rfl (by show lv + 1 ≤ 14; omega) (by show 8 + (8 + 11) + 32 * lv ≤ 550; omega) ⟨by show cells + mc + 0 ≤ 601024; omega, by show slots + ms + 0 ≤ 7293034; omega⟩ hl.1 (Nat.le_of_ble_eq_true rfl) dL_law_228 rfl) (fun H locs h => ?_)
  refine lv_istore (lv' := (7, .int b2) :: (6, .int (nI k)) :: lawL ad1 b n) hx hb dL_law_231 hl (by decide) rfl (fun ls hl => ?_)
  refine lv_aload_n hx hb dL_law_233 rfl (lv_at hl 5 rfl) ?_
  refine x_doneI X h (x_runV X h (k := (30, 0, 0, 0)) (m_X7_thrown I2 hL1 _) F_X7_thrown q849 q850 q851 (hL1 (30, 0, 0, 0) ⟨by decide, rfl, rfl, rfl⟩) rfl rfl rfl (by show 0 + 1 ≤ 14; omega) (by show 8 + (1 + 11) + 32 * 0 ≤ 550; omega) ⟨by show cells + mc + 0 + 0 ≤ 601024; omega, by show slots + ms + 0 + 0 ≤ 7293034; omega⟩ hl.1 (Nat.le_of_ble_eq_true rfl) dL_law_234 rfl) (fun H locs h => ?_)
  rw [ht]
  refine lv_iload hx hb dL_law_237 (lv_at hl 1 rfl) ?_
  refine lv_icmp_eq (tgt := 244) hx hb dL_law_239 (by decide) (fun _ => ?_) (fun q => absurd rfl q)
  refine lv_iload hx hb dL_law_244 (lv_at hl 1 rfl) ?_
  refine lv_if_ne (tgt := 261) hx hb dL_law_246 (by decide) (fun _ => ?_) (fun q => ?_)
  · refine lv_goto (tgt := 1186) hx hb dL_law_261 (by decide) ?_
    exact kk mc ms ad1 Ks1 gm1 I2 H locs ls hro1 hro2 hL1 hW1 hG1 hI2 h (lv_sub hl [2, 3, 4, 5, 6, 7] rfl)
  · skip
    refine lv_aload_n hx hb dL_law_249 rfl (lv_at hl 4 rfl) ?_
    refine lv_iconst (v := nI 0) hx hb dL_law_250 (by decide) ?_
    refine o_lald X h (hL1 (50, 0, 0, 0) ⟨by decide, rfl, rfl, rfl⟩) dL_law_251 ?_
    refine lv_iload hx hb dL_law_252 (lv_at hl 0 rfl) ?_
    refine lv_i2l hx hb dL_law_254 rfl ?_
    refine W.lcmp hx hb dL_law_255 ?_
    refine lv_if_eq (tgt := 261) hx hb dL_law_256 (by decide) (fun _ => ?_) (fun q9 => absurd ((lg_cmp_eq _ _).mpr (by rw [hb2 q])) q9)
    refine lv_goto (tgt := 1186) hx hb dL_law_261 (by decide) ?_
    exact kk mc ms ad1 Ks1 gm1 I2 H locs ls hro1 hro2 hL1 hW1 hG1 hI2 h (lv_sub hl [2, 3, 4, 5, 6, 7] rfl)
set_option maxHeartbeats 4000000 in
set_option maxRecDepth 100000 in
theorem lc_delete (Z : LX p s m meth c D tc dz b L xs) (h : Sx D (fun q => s.heap.size ≤ q) ad Ks (lay tc ad gm dz I) s H locs) (hl : lv_has ls 8 (lawL ad b n)) (hi : 5 * n + 5 ≤ L) (hL : LV gm Ks) (hC : CAS l D tc dz ad Ks gm I n yL_delete cL_delete 5 [(0, 10, 13, 13), (0, 10, 17, 15)] yX7_delete cX7_delete 5 [.int (xs (5 * n + 1)), .int (xs (5 * n + 2))]) (hcl : cells + 3000 ≤ 601024 ∧ slots + 1100000 ≤ 7293034)
    (kk : ∀ (mc ms : Nat) (ad1 : KN → Nat) (Ks1 : List KN) (gm1 : GM) (I2 : Mem) (H1 : Heap) (locs1 : List Loc) (ls1 : Array Slot), 5 * SG gm + mc ≤ 5 * SG gm1 + 1 → 2111 * SG gm + ms ≤ 2111 * SG gm1 + 6 → LV gm1 Ks1 → LW gm1 Ks1 → GM2 gm1 → LInv I2 gm1 (n + 1) → Sx D (fun q => s.heap.size ≤ q) ad1 Ks1 (lay tc ad1 gm1 dz I2) s H1 locs1 → lv_has ls1 8 (lawL ad1 b n) → W p l e room_1 s m #[Value.ref b] below meth c H1 locs1 (cells + mc) (slots + ms) Q (F0 m 1186 ls1 [])) : W p l e room_1 s m #[Value.ref b] below meth c H locs cells slots Q (F0 m 264 ls []) := by
  obtain ⟨X, -, -, hL25⟩ := id Z
  obtain ⟨hx, hb, hmaxL, hown, hts⟩ := id X.1
  obtain ⟨k, mc, ms, Φ, hw, hrr, hroom, hm1, hm2⟩ := hC
  obtain ⟨hc1, hc2⟩ := hcl
  refine lv_aload_n hx hb dL_law_264 rfl (lv_at hl 4 rfl) ?_
  refine lv_aload_n hx hb dL_law_265 rfl (lv_at hl 5 rfl) ?_
  refine lv_iload hx hb dL_law_266 (lv_at hl 0 rfl) ?_
  refine lv_iconst (v := nI 1) hx hb dL_law_268 (by decide) ?_
  refine n_iadd hx hb dL_law_269 ?_
  refine l_sld Z h (j := 5 * n + 1) (by omega) dL_law_270 ?_
  refine lv_aload_n hx hb dL_law_271 rfl (lv_at hl 5 rfl) ?_
  refine lv_iload hx hb dL_law_272 (lv_at hl 0 rfl) ?_
  refine lv_iconst (v := nI 2) hx hb dL_law_274 (by decide) ?_
  refine n_iadd hx hb dL_law_275 ?_
  refine l_sld Z h (j := 5 * n + 2) (by omega) dL_law_276 ?_
  refine lv_aload_n hx hb dL_law_277 rfl (lv_at hl 2 rfl) ?_
  refine g_doneI X h (x_runSH (n := 4) X h (hw _) q413 q26 q411 q412 ⟨by decide, by decide, by decide +kernel⟩ rfl (by decide) (Nat.le_of_ble_eq_true rfl) ⟨by show cells + mc ≤ 601024; omega, by show slots + ms ≤ 7293034; omega⟩ hl.1 (Nat.le_of_ble_eq_true rfl) dL_law_278 rfl) (fun r u H locs hP h => ?_)
  obtain ⟨rfl, hP⟩ := hP
  obtain ⟨ad1, Ks1, st1⟩ := u
  obtain ⟨gm1, I1, hΦ, hL1, hW1, hG1, hk1, hs1⟩ := hP
  have h : Sx D (fun q => s.heap.size ≤ q) ad1 Ks1 (lay tc ad1 gm1 dz I1) s H locs := h.congr hs1
  obtain ⟨lv, b2, I2, hlv, hM, ht, hb2, hI2⟩ := hrr gm1 I1 hΦ ad1 Ks1 hL1
  obtain ⟨hro1, hro2⟩ := hroom gm1 I1 hΦ
  have ea : lawL ad1 b n = lawL ad b n := by
    have e0 : ad1 (0, 0, 0, 0) = ad (0, 0, 0, 0) := hk1 _ (hL (0, 0, 0, 0) ⟨rfl, rfl, rfl⟩) (by decide)
    have e30 : ad1 (30, 0, 0, 0) = ad (30, 0, 0, 0) := hk1 _ (hL (30, 0, 0, 0) ⟨by decide, rfl, rfl, rfl⟩) (by decide)
    have e50 : ad1 (50, 0, 0, 0) = ad (50, 0, 0, 0) := hk1 _ (hL (50, 0, 0, 0) ⟨by decide, rfl, rfl, rfl⟩) (by decide)
    have e51 : ad1 (51, 0, 0, 0) = ad (51, 0, 0, 0) := hk1 _ (hL (51, 0, 0, 0) ⟨by decide, rfl, rfl, rfl⟩) (by decide)
    unfold lawL
    rw [e0, e30, e50, e51]
  rw [← ea] at hl
  clear ea hk1
  refine lv_istore (lv' := (6, .int (nI k)) :: lawL ad1 b n) hx hb dL_law_281 hl (by decide) rfl (fun ls hl => ?_)
  refine lv_aload_n hx hb dL_law_283 rfl (lv_at hl 4 rfl) ?_
  refine lv_aload_n hx hb dL_law_284 rfl (lv_at hl 6 rfl) ?_
  refine lv_iload hx hb dL_law_285 (lv_at hl 1 rfl) ?_
  refine lv_iconst (v := nI 1) hx hb dL_law_287 (by decide) ?_
  refine n_iadd hx hb dL_law_288 ?_
  refine l_sld Z h (j := 5 * n + 1) (by omega) dL_law_289 ?_
  refine lv_aload_n hx hb dL_law_290 rfl (lv_at hl 6 rfl) ?_
  refine lv_iload hx hb dL_law_291 (lv_at hl 1 rfl) ?_
  refine lv_iconst (v := nI 2) hx hb dL_law_293 (by decide) ?_
  refine n_iadd hx hb dL_law_294 ?_
  refine l_sld Z h (j := 5 * n + 2) (by omega) dL_law_295 ?_
  refine x_doneI X h (x_runV X h (k := (30, 0, 0, 0)) (hM _) F_X7_delete q896 q897 q898 (hL1 (30, 0, 0, 0) ⟨by decide, rfl, rfl, rfl⟩) rfl rfl rfl (by show lv + 1 ≤ 14; omega) (by show 8 + (5 + 11) + 32 * lv ≤ 550; omega) ⟨by show cells + mc + 0 ≤ 601024; omega, by show slots + ms + 0 ≤ 7293034; omega⟩ hl.1 (Nat.le_of_ble_eq_true rfl) dL_law_296 rfl) (fun H locs h => ?_)
  refine lv_istore (lv' := (7, .int b2) :: (6, .int (nI k)) :: lawL ad1 b n) hx hb dL_law_299 hl (by decide) rfl (fun ls hl => ?_)
  refine lv_aload_n hx hb dL_law_301 rfl (lv_at hl 5 rfl) ?_
  refine x_doneI X h (x_runV X h (k := (30, 0, 0, 0)) (m_X7_thrown I2 hL1 _) F_X7_thrown q849 q850 q851 (hL1 (30, 0, 0, 0) ⟨by decide, rfl, rfl, rfl⟩) rfl rfl rfl (by show 0 + 1 ≤ 14; omega) (by show 8 + (1 + 11) + 32 * 0 ≤ 550; omega) ⟨by show cells + mc + 0 + 0 ≤ 601024; omega, by show slots + ms + 0 + 0 ≤ 7293034; omega⟩ hl.1 (Nat.le_of_ble_eq_true rfl) dL_law_302 rfl) (fun H locs h => ?_)
  rw [ht]
  refine lv_iload hx hb dL_law_305 (lv_at hl 1 rfl) ?_
  refine lv_icmp_eq (tgt := 312) hx hb dL_law_307 (by decide) (fun _ => ?_) (fun q => absurd rfl q)
  refine lv_iload hx hb dL_law_312 (lv_at hl 1 rfl) ?_
  refine lv_if_ne (tgt := 329) hx hb dL_law_314 (by decide) (fun _ => ?_) (fun q => ?_)
  · refine lv_goto (tgt := 1186) hx hb dL_law_329 (by decide) ?_
    exact kk mc ms ad1 Ks1 gm1 I2 H locs ls hro1 hro2 hL1 hW1 hG1 hI2 h (lv_sub hl [2, 3, 4, 5, 6, 7] rfl)
  · skip
    refine lv_aload_n hx hb dL_law_317 rfl (lv_at hl 4 rfl) ?_
    refine lv_iconst (v := nI 0) hx hb dL_law_318 (by decide) ?_
    refine o_lald X h (hL1 (50, 0, 0, 0) ⟨by decide, rfl, rfl, rfl⟩) dL_law_319 ?_
    refine lv_iload hx hb dL_law_320 (lv_at hl 0 rfl) ?_
    refine lv_i2l hx hb dL_law_322 rfl ?_
    refine W.lcmp hx hb dL_law_323 ?_
    refine lv_if_eq (tgt := 329) hx hb dL_law_324 (by decide) (fun _ => ?_) (fun q9 => absurd ((lg_cmp_eq _ _).mpr (by rw [hb2 q])) q9)
    refine lv_goto (tgt := 1186) hx hb dL_law_329 (by decide) ?_
    exact kk mc ms ad1 Ks1 gm1 I2 H locs ls hro1 hro2 hL1 hW1 hG1 hI2 h (lv_sub hl [2, 3, 4, 5, 6, 7] rfl)
set_option maxHeartbeats 4000000 in
set_option maxRecDepth 100000 in
theorem lc_share (Z : LX p s m meth c D tc dz b L xs) (h : Sx D (fun q => s.heap.size ≤ q) ad Ks (lay tc ad gm dz I) s H locs) (hl : lv_has ls 8 (lawL ad b n)) (hi : 5 * n + 5 ≤ L) (hL : LV gm Ks) (hC : CAS l D tc dz ad Ks gm I n yL_share cL_share 7 [(0, 14, 17, 13), (0, 14, 21, 21), (0, 14, 25, 15)] yX7_share cX7_share 10 [.int (xs (5 * n + 1)), .int (xs (5 * n + 2)), .int (xs (5 * n + 3)), .int (xs (5 * n + 4))]) (hcl : cells + 3000 ≤ 601024 ∧ slots + 1100000 ≤ 7293034)
    (kk : ∀ (mc ms : Nat) (ad1 : KN → Nat) (Ks1 : List KN) (gm1 : GM) (I2 : Mem) (H1 : Heap) (locs1 : List Loc) (ls1 : Array Slot), 5 * SG gm + mc ≤ 5 * SG gm1 + 1 → 2111 * SG gm + ms ≤ 2111 * SG gm1 + 6 → LV gm1 Ks1 → LW gm1 Ks1 → GM2 gm1 → LInv I2 gm1 (n + 1) → Sx D (fun q => s.heap.size ≤ q) ad1 Ks1 (lay tc ad1 gm1 dz I2) s H1 locs1 → lv_has ls1 8 (lawL ad1 b n) → W p l e room_1 s m #[Value.ref b] below meth c H1 locs1 (cells + mc) (slots + ms) Q (F0 m 1186 ls1 [])) : W p l e room_1 s m #[Value.ref b] below meth c H locs cells slots Q (F0 m 332 ls []) := by
  obtain ⟨X, -, -, hL25⟩ := id Z
  obtain ⟨hx, hb, hmaxL, hown, hts⟩ := id X.1
  obtain ⟨k, mc, ms, Φ, hw, hrr, hroom, hm1, hm2⟩ := hC
  obtain ⟨hc1, hc2⟩ := hcl
  refine lv_aload_n hx hb dL_law_332 rfl (lv_at hl 4 rfl) ?_
  refine lv_aload_n hx hb dL_law_333 rfl (lv_at hl 5 rfl) ?_
  refine lv_iload hx hb dL_law_334 (lv_at hl 0 rfl) ?_
  refine lv_iconst (v := nI 1) hx hb dL_law_336 (by decide) ?_
  refine n_iadd hx hb dL_law_337 ?_
  refine l_sld Z h (j := 5 * n + 1) (by omega) dL_law_338 ?_
  refine lv_aload_n hx hb dL_law_339 rfl (lv_at hl 5 rfl) ?_
  refine lv_iload hx hb dL_law_340 (lv_at hl 0 rfl) ?_
  refine lv_iconst (v := nI 2) hx hb dL_law_342 (by decide) ?_
  refine n_iadd hx hb dL_law_343 ?_
  refine l_sld Z h (j := 5 * n + 2) (by omega) dL_law_344 ?_
  refine lv_aload_n hx hb dL_law_345 rfl (lv_at hl 5 rfl) ?_
  refine lv_iload hx hb dL_law_346 (lv_at hl 0 rfl) ?_
  refine lv_iconst (v := nI 3) hx hb dL_law_348 (by decide) ?_
  refine n_iadd hx hb dL_law_349 ?_
  refine l_sld Z h (j := 5 * n + 3) (by omega) dL_law_350 ?_
  refine lv_aload_n hx hb dL_law_351 rfl (lv_at hl 5 rfl) ?_
  refine lv_iload hx hb dL_law_352 (lv_at hl 0 rfl) ?_
  refine lv_iconst (v := nI 4) hx hb dL_law_354 (by decide) ?_
  refine n_iadd hx hb dL_law_355 ?_
  refine l_sld Z h (j := 5 * n + 4) (by omega) dL_law_356 ?_
  refine lv_aload_n hx hb dL_law_357 rfl (lv_at hl 2 rfl) ?_
  refine g_doneI X h (x_runSH (n := 6) X h (hw _) q562 q26 q560 q561 ⟨by decide, by decide, by decide +kernel⟩ rfl (by decide) (Nat.le_of_ble_eq_true rfl) ⟨by show cells + mc ≤ 601024; omega, by show slots + ms ≤ 7293034; omega⟩ hl.1 (Nat.le_of_ble_eq_true rfl) dL_law_358 rfl) (fun r u H locs hP h => ?_)
  obtain ⟨rfl, hP⟩ := hP
  obtain ⟨ad1, Ks1, st1⟩ := u
  obtain ⟨gm1, I1, hΦ, hL1, hW1, hG1, hk1, hs1⟩ := hP
  have h : Sx D (fun q => s.heap.size ≤ q) ad1 Ks1 (lay tc ad1 gm1 dz I1) s H locs := h.congr hs1
  obtain ⟨lv, b2, I2, hlv, hM, ht, hb2, hI2⟩ := hrr gm1 I1 hΦ ad1 Ks1 hL1
  obtain ⟨hro1, hro2⟩ := hroom gm1 I1 hΦ
  have ea : lawL ad1 b n = lawL ad b n := by
    have e0 : ad1 (0, 0, 0, 0) = ad (0, 0, 0, 0) := hk1 _ (hL (0, 0, 0, 0) ⟨rfl, rfl, rfl⟩) (by decide)
    have e30 : ad1 (30, 0, 0, 0) = ad (30, 0, 0, 0) := hk1 _ (hL (30, 0, 0, 0) ⟨by decide, rfl, rfl, rfl⟩) (by decide)
    have e50 : ad1 (50, 0, 0, 0) = ad (50, 0, 0, 0) := hk1 _ (hL (50, 0, 0, 0) ⟨by decide, rfl, rfl, rfl⟩) (by decide)
    have e51 : ad1 (51, 0, 0, 0) = ad (51, 0, 0, 0) := hk1 _ (hL (51, 0, 0, 0) ⟨by decide, rfl, rfl, rfl⟩) (by decide)
    unfold lawL
    rw [e0, e30, e50, e51]
  rw [← ea] at hl
  clear ea hk1
  refine lv_istore (lv' := (6, .int (nI k)) :: lawL ad1 b n) hx hb dL_law_361 hl (by decide) rfl (fun ls hl => ?_)
  refine lv_aload_n hx hb dL_law_363 rfl (lv_at hl 4 rfl) ?_
  refine lv_aload_n hx hb dL_law_364 rfl (lv_at hl 6 rfl) ?_
  refine lv_iload hx hb dL_law_365 (lv_at hl 1 rfl) ?_
  refine lv_iconst (v := nI 1) hx hb dL_law_367 (by decide) ?_
  refine n_iadd hx hb dL_law_368 ?_
  refine l_sld Z h (j := 5 * n + 1) (by omega) dL_law_369 ?_
  refine lv_aload_n hx hb dL_law_370 rfl (lv_at hl 6 rfl) ?_
  refine lv_iload hx hb dL_law_371 (lv_at hl 1 rfl) ?_
  refine lv_iconst (v := nI 2) hx hb dL_law_373 (by decide) ?_
  refine n_iadd hx hb dL_law_374 ?_
  refine l_sld Z h (j := 5 * n + 2) (by omega) dL_law_375 ?_
  refine lv_aload_n hx hb dL_law_376 rfl (lv_at hl 6 rfl) ?_
  refine lv_iload hx hb dL_law_377 (lv_at hl 1 rfl) ?_
  refine lv_iconst (v := nI 3) hx hb dL_law_379 (by decide) ?_
  refine n_iadd hx hb dL_law_380 ?_
  refine l_sld Z h (j := 5 * n + 3) (by omega) dL_law_381 ?_
  refine lv_aload_n hx hb dL_law_382 rfl (lv_at hl 6 rfl) ?_
  refine lv_iload hx hb dL_law_383 (lv_at hl 1 rfl) ?_
  refine lv_iconst (v := nI 4) hx hb dL_law_385 (by decide) ?_
  refine n_iadd hx hb dL_law_386 ?_
  refine l_sld Z h (j := 5 * n + 4) (by omega) dL_law_387 ?_
  refine x_doneI X h (x_runV X h (k := (30, 0, 0, 0)) (hM _) F_X7_share q920 q921 q922 (hL1 (30, 0, 0, 0) ⟨by decide, rfl, rfl, rfl⟩) rfl rfl rfl (by show lv + 1 ≤ 14; omega) (by show 8 + (10 + 11) + 32 * lv ≤ 550; omega) ⟨by show cells + mc + 0 ≤ 601024; omega, by show slots + ms + 0 ≤ 7293034; omega⟩ hl.1 (Nat.le_of_ble_eq_true rfl) dL_law_388 rfl) (fun H locs h => ?_)
  refine lv_istore (lv' := (7, .int b2) :: (6, .int (nI k)) :: lawL ad1 b n) hx hb dL_law_391 hl (by decide) rfl (fun ls hl => ?_)
  refine lv_aload_n hx hb dL_law_393 rfl (lv_at hl 5 rfl) ?_
  refine x_doneI X h (x_runV X h (k := (30, 0, 0, 0)) (m_X7_thrown I2 hL1 _) F_X7_thrown q849 q850 q851 (hL1 (30, 0, 0, 0) ⟨by decide, rfl, rfl, rfl⟩) rfl rfl rfl (by show 0 + 1 ≤ 14; omega) (by show 8 + (1 + 11) + 32 * 0 ≤ 550; omega) ⟨by show cells + mc + 0 + 0 ≤ 601024; omega, by show slots + ms + 0 + 0 ≤ 7293034; omega⟩ hl.1 (Nat.le_of_ble_eq_true rfl) dL_law_394 rfl) (fun H locs h => ?_)
  rw [ht]
  refine lv_iload hx hb dL_law_397 (lv_at hl 1 rfl) ?_
  refine lv_icmp_eq (tgt := 404) hx hb dL_law_399 (by decide) (fun _ => ?_) (fun q => absurd rfl q)
  refine lv_iload hx hb dL_law_404 (lv_at hl 1 rfl) ?_
  refine lv_if_ne (tgt := 421) hx hb dL_law_406 (by decide) (fun _ => ?_) (fun q => ?_)
  · refine lv_goto (tgt := 1186) hx hb dL_law_421 (by decide) ?_
    exact kk mc ms ad1 Ks1 gm1 I2 H locs ls hro1 hro2 hL1 hW1 hG1 hI2 h (lv_sub hl [2, 3, 4, 5, 6, 7] rfl)
  · skip
    refine lv_aload_n hx hb dL_law_409 rfl (lv_at hl 4 rfl) ?_
    refine lv_iconst (v := nI 0) hx hb dL_law_410 (by decide) ?_
    refine o_lald X h (hL1 (50, 0, 0, 0) ⟨by decide, rfl, rfl, rfl⟩) dL_law_411 ?_
    refine lv_iload hx hb dL_law_412 (lv_at hl 0 rfl) ?_
    refine lv_i2l hx hb dL_law_414 rfl ?_
    refine W.lcmp hx hb dL_law_415 ?_
    refine lv_if_eq (tgt := 421) hx hb dL_law_416 (by decide) (fun _ => ?_) (fun q9 => absurd ((lg_cmp_eq _ _).mpr (by rw [hb2 q])) q9)
    refine lv_goto (tgt := 1186) hx hb dL_law_421 (by decide) ?_
    exact kk mc ms ad1 Ks1 gm1 I2 H locs ls hro1 hro2 hL1 hW1 hG1 hI2 h (lv_sub hl [2, 3, 4, 5, 6, 7] rfl)
set_option maxHeartbeats 4000000 in
set_option maxRecDepth 100000 in
theorem lc_merge (Z : LX p s m meth c D tc dz b L xs) (h : Sx D (fun q => s.heap.size ≤ q) ad Ks (lay tc ad gm dz I) s H locs) (hl : lv_has ls 8 (lawL ad b n)) (hi : 5 * n + 5 ≤ L) (hL : LV gm Ks) (hC : CAS l D tc dz ad Ks gm I n yL_merge cL_merge 5 [(0, 10, 13, 13), (0, 10, 17, 21)] yX7_merge cX7_merge 8 [.int (xs (5 * n + 1)), .int (xs (5 * n + 2))]) (hcl : cells + 3000 ≤ 601024 ∧ slots + 1100000 ≤ 7293034)
    (kk : ∀ (mc ms : Nat) (ad1 : KN → Nat) (Ks1 : List KN) (gm1 : GM) (I2 : Mem) (H1 : Heap) (locs1 : List Loc) (ls1 : Array Slot), 5 * SG gm + mc ≤ 5 * SG gm1 + 1 → 2111 * SG gm + ms ≤ 2111 * SG gm1 + 6 → LV gm1 Ks1 → LW gm1 Ks1 → GM2 gm1 → LInv I2 gm1 (n + 1) → Sx D (fun q => s.heap.size ≤ q) ad1 Ks1 (lay tc ad1 gm1 dz I2) s H1 locs1 → lv_has ls1 8 (lawL ad1 b n) → W p l e room_1 s m #[Value.ref b] below meth c H1 locs1 (cells + mc) (slots + ms) Q (F0 m 1186 ls1 [])) : W p l e room_1 s m #[Value.ref b] below meth c H locs cells slots Q (F0 m 424 ls []) := by
  obtain ⟨X, -, -, hL25⟩ := id Z
  obtain ⟨hx, hb, hmaxL, hown, hts⟩ := id X.1
  obtain ⟨k, mc, ms, Φ, hw, hrr, hroom, hm1, hm2⟩ := hC
  obtain ⟨hc1, hc2⟩ := hcl
  refine lv_aload_n hx hb dL_law_424 rfl (lv_at hl 4 rfl) ?_
  refine lv_aload_n hx hb dL_law_425 rfl (lv_at hl 5 rfl) ?_
  refine lv_iload hx hb dL_law_426 (lv_at hl 0 rfl) ?_
  refine lv_iconst (v := nI 1) hx hb dL_law_428 (by decide) ?_
  refine n_iadd hx hb dL_law_429 ?_
  refine l_sld Z h (j := 5 * n + 1) (by omega) dL_law_430 ?_
  refine lv_aload_n hx hb dL_law_431 rfl (lv_at hl 5 rfl) ?_
  refine lv_iload hx hb dL_law_432 (lv_at hl 0 rfl) ?_
  refine lv_iconst (v := nI 2) hx hb dL_law_434 (by decide) ?_
  refine n_iadd hx hb dL_law_435 ?_
  refine l_sld Z h (j := 5 * n + 2) (by omega) dL_law_436 ?_
  refine lv_aload_n hx hb dL_law_437 rfl (lv_at hl 2 rfl) ?_
  refine g_doneI X h (x_runSH (n := 4) X h (hw _) q585 q26 q583 q584 ⟨by decide, by decide, by decide +kernel⟩ rfl (by decide) (Nat.le_of_ble_eq_true rfl) ⟨by show cells + mc ≤ 601024; omega, by show slots + ms ≤ 7293034; omega⟩ hl.1 (Nat.le_of_ble_eq_true rfl) dL_law_438 rfl) (fun r u H locs hP h => ?_)
  obtain ⟨rfl, hP⟩ := hP
  obtain ⟨ad1, Ks1, st1⟩ := u
  obtain ⟨gm1, I1, hΦ, hL1, hW1, hG1, hk1, hs1⟩ := hP
  have h : Sx D (fun q => s.heap.size ≤ q) ad1 Ks1 (lay tc ad1 gm1 dz I1) s H locs := h.congr hs1
  obtain ⟨lv, b2, I2, hlv, hM, ht, hb2, hI2⟩ := hrr gm1 I1 hΦ ad1 Ks1 hL1
  obtain ⟨hro1, hro2⟩ := hroom gm1 I1 hΦ
  have ea : lawL ad1 b n = lawL ad b n := by
    have e0 : ad1 (0, 0, 0, 0) = ad (0, 0, 0, 0) := hk1 _ (hL (0, 0, 0, 0) ⟨rfl, rfl, rfl⟩) (by decide)
    have e30 : ad1 (30, 0, 0, 0) = ad (30, 0, 0, 0) := hk1 _ (hL (30, 0, 0, 0) ⟨by decide, rfl, rfl, rfl⟩) (by decide)
    have e50 : ad1 (50, 0, 0, 0) = ad (50, 0, 0, 0) := hk1 _ (hL (50, 0, 0, 0) ⟨by decide, rfl, rfl, rfl⟩) (by decide)
    have e51 : ad1 (51, 0, 0, 0) = ad (51, 0, 0, 0) := hk1 _ (hL (51, 0, 0, 0) ⟨by decide, rfl, rfl, rfl⟩) (by decide)
    unfold lawL
    rw [e0, e30, e50, e51]
  rw [← ea] at hl
  clear ea hk1
  refine lv_istore (lv' := (6, .int (nI k)) :: lawL ad1 b n) hx hb dL_law_441 hl (by decide) rfl (fun ls hl => ?_)
  refine lv_aload_n hx hb dL_law_443 rfl (lv_at hl 4 rfl) ?_
  refine lv_aload_n hx hb dL_law_444 rfl (lv_at hl 6 rfl) ?_
  refine lv_iload hx hb dL_law_445 (lv_at hl 1 rfl) ?_
  refine lv_iconst (v := nI 1) hx hb dL_law_447 (by decide) ?_
  refine n_iadd hx hb dL_law_448 ?_
  refine l_sld Z h (j := 5 * n + 1) (by omega) dL_law_449 ?_
  refine lv_aload_n hx hb dL_law_450 rfl (lv_at hl 6 rfl) ?_
  refine lv_iload hx hb dL_law_451 (lv_at hl 1 rfl) ?_
  refine lv_iconst (v := nI 2) hx hb dL_law_453 (by decide) ?_
  refine n_iadd hx hb dL_law_454 ?_
  refine l_sld Z h (j := 5 * n + 2) (by omega) dL_law_455 ?_
  refine x_doneI X h (x_runV X h (k := (30, 0, 0, 0)) (hM _) F_X7_merge q924 q925 q926 (hL1 (30, 0, 0, 0) ⟨by decide, rfl, rfl, rfl⟩) rfl rfl rfl (by show lv + 1 ≤ 14; omega) (by show 8 + (8 + 11) + 32 * lv ≤ 550; omega) ⟨by show cells + mc + 0 ≤ 601024; omega, by show slots + ms + 0 ≤ 7293034; omega⟩ hl.1 (Nat.le_of_ble_eq_true rfl) dL_law_456 rfl) (fun H locs h => ?_)
  refine lv_istore (lv' := (7, .int b2) :: (6, .int (nI k)) :: lawL ad1 b n) hx hb dL_law_459 hl (by decide) rfl (fun ls hl => ?_)
  refine lv_aload_n hx hb dL_law_461 rfl (lv_at hl 5 rfl) ?_
  refine x_doneI X h (x_runV X h (k := (30, 0, 0, 0)) (m_X7_thrown I2 hL1 _) F_X7_thrown q849 q850 q851 (hL1 (30, 0, 0, 0) ⟨by decide, rfl, rfl, rfl⟩) rfl rfl rfl (by show 0 + 1 ≤ 14; omega) (by show 8 + (1 + 11) + 32 * 0 ≤ 550; omega) ⟨by show cells + mc + 0 + 0 ≤ 601024; omega, by show slots + ms + 0 + 0 ≤ 7293034; omega⟩ hl.1 (Nat.le_of_ble_eq_true rfl) dL_law_462 rfl) (fun H locs h => ?_)
  rw [ht]
  refine lv_iload hx hb dL_law_465 (lv_at hl 1 rfl) ?_
  refine lv_icmp_eq (tgt := 472) hx hb dL_law_467 (by decide) (fun _ => ?_) (fun q => absurd rfl q)
  refine lv_iload hx hb dL_law_472 (lv_at hl 1 rfl) ?_
  refine lv_if_ne (tgt := 489) hx hb dL_law_474 (by decide) (fun _ => ?_) (fun q => ?_)
  · refine lv_goto (tgt := 1186) hx hb dL_law_489 (by decide) ?_
    exact kk mc ms ad1 Ks1 gm1 I2 H locs ls hro1 hro2 hL1 hW1 hG1 hI2 h (lv_sub hl [2, 3, 4, 5, 6, 7] rfl)
  · skip
    refine lv_aload_n hx hb dL_law_477 rfl (lv_at hl 4 rfl) ?_
    refine lv_iconst (v := nI 0) hx hb dL_law_478 (by decide) ?_
    refine o_lald X h (hL1 (50, 0, 0, 0) ⟨by decide, rfl, rfl, rfl⟩) dL_law_479 ?_
    refine lv_iload hx hb dL_law_480 (lv_at hl 0 rfl) ?_
    refine lv_i2l hx hb dL_law_482 rfl ?_
    refine W.lcmp hx hb dL_law_483 ?_
    refine lv_if_eq (tgt := 489) hx hb dL_law_484 (by decide) (fun _ => ?_) (fun q9 => absurd ((lg_cmp_eq _ _).mpr (by rw [hb2 q])) q9)
    refine lv_goto (tgt := 1186) hx hb dL_law_489 (by decide) ?_
    exact kk mc ms ad1 Ks1 gm1 I2 H locs ls hro1 hro2 hL1 hW1 hG1 hI2 h (lv_sub hl [2, 3, 4, 5, 6, 7] rfl)
set_option maxHeartbeats 4000000 in
set_option maxRecDepth 100000 in
theorem lc_pass (Z : LX p s m meth c D tc dz b L xs) (h : Sx D (fun q => s.heap.size ≤ q) ad Ks (lay tc ad gm dz I) s H locs) (hl : lv_has ls 8 (lawL ad b n)) (hi : 5 * n + 5 ≤ L) (hL : LV gm Ks) (hC : CAS l D tc dz ad Ks gm I n yL_pass cL_pass 4 [(0, 9, 12, 21)] yX7_pass cX7_pass 5 [.int (xs (5 * n + 1))]) (hcl : cells + 3000 ≤ 601024 ∧ slots + 1100000 ≤ 7293034)
    (kk : ∀ (mc ms : Nat) (ad1 : KN → Nat) (Ks1 : List KN) (gm1 : GM) (I2 : Mem) (H1 : Heap) (locs1 : List Loc) (ls1 : Array Slot), 5 * SG gm + mc ≤ 5 * SG gm1 + 1 → 2111 * SG gm + ms ≤ 2111 * SG gm1 + 6 → LV gm1 Ks1 → LW gm1 Ks1 → GM2 gm1 → LInv I2 gm1 (n + 1) → Sx D (fun q => s.heap.size ≤ q) ad1 Ks1 (lay tc ad1 gm1 dz I2) s H1 locs1 → lv_has ls1 8 (lawL ad1 b n) → W p l e room_1 s m #[Value.ref b] below meth c H1 locs1 (cells + mc) (slots + ms) Q (F0 m 1186 ls1 [])) : W p l e room_1 s m #[Value.ref b] below meth c H locs cells slots Q (F0 m 492 ls []) := by
  obtain ⟨X, -, -, hL25⟩ := id Z
  obtain ⟨hx, hb, hmaxL, hown, hts⟩ := id X.1
  obtain ⟨k, mc, ms, Φ, hw, hrr, hroom, hm1, hm2⟩ := hC
  obtain ⟨hc1, hc2⟩ := hcl
  refine lv_aload_n hx hb dL_law_492 rfl (lv_at hl 4 rfl) ?_
  refine lv_aload_n hx hb dL_law_493 rfl (lv_at hl 5 rfl) ?_
  refine lv_iload hx hb dL_law_494 (lv_at hl 0 rfl) ?_
  refine lv_iconst (v := nI 1) hx hb dL_law_496 (by decide) ?_
  refine n_iadd hx hb dL_law_497 ?_
  refine l_sld Z h (j := 5 * n + 1) (by omega) dL_law_498 ?_
  refine lv_aload_n hx hb dL_law_499 rfl (lv_at hl 2 rfl) ?_
  refine g_doneI X h (x_runSH (n := 3) X h (hw _) q636 q26 q634 q635 ⟨by decide, by decide, by decide +kernel⟩ rfl (by decide) (Nat.le_of_ble_eq_true rfl) ⟨by show cells + mc ≤ 601024; omega, by show slots + ms ≤ 7293034; omega⟩ hl.1 (Nat.le_of_ble_eq_true rfl) dL_law_500 rfl) (fun r u H locs hP h => ?_)
  obtain ⟨rfl, hP⟩ := hP
  obtain ⟨ad1, Ks1, st1⟩ := u
  obtain ⟨gm1, I1, hΦ, hL1, hW1, hG1, hk1, hs1⟩ := hP
  have h : Sx D (fun q => s.heap.size ≤ q) ad1 Ks1 (lay tc ad1 gm1 dz I1) s H locs := h.congr hs1
  obtain ⟨lv, b2, I2, hlv, hM, ht, hb2, hI2⟩ := hrr gm1 I1 hΦ ad1 Ks1 hL1
  obtain ⟨hro1, hro2⟩ := hroom gm1 I1 hΦ
  have ea : lawL ad1 b n = lawL ad b n := by
    have e0 : ad1 (0, 0, 0, 0) = ad (0, 0, 0, 0) := hk1 _ (hL (0, 0, 0, 0) ⟨rfl, rfl, rfl⟩) (by decide)
    have e30 : ad1 (30, 0, 0, 0) = ad (30, 0, 0, 0) := hk1 _ (hL (30, 0, 0, 0) ⟨by decide, rfl, rfl, rfl⟩) (by decide)
    have e50 : ad1 (50, 0, 0, 0) = ad (50, 0, 0, 0) := hk1 _ (hL (50, 0, 0, 0) ⟨by decide, rfl, rfl, rfl⟩) (by decide)
    have e51 : ad1 (51, 0, 0, 0) = ad (51, 0, 0, 0) := hk1 _ (hL (51, 0, 0, 0) ⟨by decide, rfl, rfl, rfl⟩) (by decide)
    unfold lawL
    rw [e0, e30, e50, e51]
  rw [← ea] at hl
  clear ea hk1
  refine lv_istore (lv' := (6, .int (nI k)) :: lawL ad1 b n) hx hb dL_law_503 hl (by decide) rfl (fun ls hl => ?_)
  refine lv_aload_n hx hb dL_law_505 rfl (lv_at hl 4 rfl) ?_
  refine lv_aload_n hx hb dL_law_506 rfl (lv_at hl 6 rfl) ?_
  refine lv_iload hx hb dL_law_507 (lv_at hl 1 rfl) ?_
  refine lv_iconst (v := nI 1) hx hb dL_law_509 (by decide) ?_
  refine n_iadd hx hb dL_law_510 ?_
  refine l_sld Z h (j := 5 * n + 1) (by omega) dL_law_511 ?_
  refine x_doneI X h (x_runV X h (k := (30, 0, 0, 0)) (hM _) F_X7_pass q959 q960 q961 (hL1 (30, 0, 0, 0) ⟨by decide, rfl, rfl, rfl⟩) rfl rfl rfl (by show lv + 1 ≤ 14; omega) (by show 8 + (5 + 11) + 32 * lv ≤ 550; omega) ⟨by show cells + mc + 0 ≤ 601024; omega, by show slots + ms + 0 ≤ 7293034; omega⟩ hl.1 (Nat.le_of_ble_eq_true rfl) dL_law_512 rfl) (fun H locs h => ?_)
  refine lv_istore (lv' := (7, .int b2) :: (6, .int (nI k)) :: lawL ad1 b n) hx hb dL_law_515 hl (by decide) rfl (fun ls hl => ?_)
  refine lv_aload_n hx hb dL_law_517 rfl (lv_at hl 5 rfl) ?_
  refine x_doneI X h (x_runV X h (k := (30, 0, 0, 0)) (m_X7_thrown I2 hL1 _) F_X7_thrown q849 q850 q851 (hL1 (30, 0, 0, 0) ⟨by decide, rfl, rfl, rfl⟩) rfl rfl rfl (by show 0 + 1 ≤ 14; omega) (by show 8 + (1 + 11) + 32 * 0 ≤ 550; omega) ⟨by show cells + mc + 0 + 0 ≤ 601024; omega, by show slots + ms + 0 + 0 ≤ 7293034; omega⟩ hl.1 (Nat.le_of_ble_eq_true rfl) dL_law_518 rfl) (fun H locs h => ?_)
  rw [ht]
  refine lv_iload hx hb dL_law_521 (lv_at hl 1 rfl) ?_
  refine lv_icmp_eq (tgt := 528) hx hb dL_law_523 (by decide) (fun _ => ?_) (fun q => absurd rfl q)
  refine lv_iload hx hb dL_law_528 (lv_at hl 1 rfl) ?_
  refine lv_if_ne (tgt := 545) hx hb dL_law_530 (by decide) (fun _ => ?_) (fun q => ?_)
  · refine lv_goto (tgt := 1186) hx hb dL_law_545 (by decide) ?_
    exact kk mc ms ad1 Ks1 gm1 I2 H locs ls hro1 hro2 hL1 hW1 hG1 hI2 h (lv_sub hl [2, 3, 4, 5, 6, 7] rfl)
  · skip
    refine lv_aload_n hx hb dL_law_533 rfl (lv_at hl 4 rfl) ?_
    refine lv_iconst (v := nI 0) hx hb dL_law_534 (by decide) ?_
    refine o_lald X h (hL1 (50, 0, 0, 0) ⟨by decide, rfl, rfl, rfl⟩) dL_law_535 ?_
    refine lv_iload hx hb dL_law_536 (lv_at hl 0 rfl) ?_
    refine lv_i2l hx hb dL_law_538 rfl ?_
    refine W.lcmp hx hb dL_law_539 ?_
    refine lv_if_eq (tgt := 545) hx hb dL_law_540 (by decide) (fun _ => ?_) (fun q9 => absurd ((lg_cmp_eq _ _).mpr (by rw [hb2 q])) q9)
    refine lv_goto (tgt := 1186) hx hb dL_law_545 (by decide) ?_
    exact kk mc ms ad1 Ks1 gm1 I2 H locs ls hro1 hro2 hL1 hW1 hG1 hI2 h (lv_sub hl [2, 3, 4, 5, 6, 7] rfl)
set_option maxHeartbeats 4000000 in
set_option maxRecDepth 100000 in
theorem lc_state (Z : LX p s m meth c D tc dz b L xs) (h : Sx D (fun q => s.heap.size ≤ q) ad Ks (lay tc ad gm dz I) s H locs) (hl : lv_has ls 8 (lawL ad b n)) (hi : 5 * n + 5 ≤ L) (hL : LV gm Ks) (hC : CAS l D tc dz ad Ks gm I n yL_state cL_state 5 [(0, 10, 13, 13)] yX7_state cX7_state 4 [.int (xs (5 * n + 1)), .int (xs (5 * n + 2))]) (hcl : cells + 3000 ≤ 601024 ∧ slots + 1100000 ≤ 7293034)
    (kk : ∀ (mc ms : Nat) (ad1 : KN → Nat) (Ks1 : List KN) (gm1 : GM) (I2 : Mem) (H1 : Heap) (locs1 : List Loc) (ls1 : Array Slot), 5 * SG gm + mc ≤ 5 * SG gm1 + 1 → 2111 * SG gm + ms ≤ 2111 * SG gm1 + 6 → LV gm1 Ks1 → LW gm1 Ks1 → GM2 gm1 → LInv I2 gm1 (n + 1) → Sx D (fun q => s.heap.size ≤ q) ad1 Ks1 (lay tc ad1 gm1 dz I2) s H1 locs1 → lv_has ls1 8 (lawL ad1 b n) → W p l e room_1 s m #[Value.ref b] below meth c H1 locs1 (cells + mc) (slots + ms) Q (F0 m 1186 ls1 [])) : W p l e room_1 s m #[Value.ref b] below meth c H locs cells slots Q (F0 m 548 ls []) := by
  obtain ⟨X, -, -, hL25⟩ := id Z
  obtain ⟨hx, hb, hmaxL, hown, hts⟩ := id X.1
  obtain ⟨k, mc, ms, Φ, hw, hrr, hroom, hm1, hm2⟩ := hC
  obtain ⟨hc1, hc2⟩ := hcl
  refine lv_aload_n hx hb dL_law_548 rfl (lv_at hl 4 rfl) ?_
  refine lv_aload_n hx hb dL_law_549 rfl (lv_at hl 5 rfl) ?_
  refine lv_iload hx hb dL_law_550 (lv_at hl 0 rfl) ?_
  refine lv_iconst (v := nI 1) hx hb dL_law_552 (by decide) ?_
  refine n_iadd hx hb dL_law_553 ?_
  refine l_sld Z h (j := 5 * n + 1) (by omega) dL_law_554 ?_
  refine lv_aload_n hx hb dL_law_555 rfl (lv_at hl 5 rfl) ?_
  refine lv_iload hx hb dL_law_556 (lv_at hl 0 rfl) ?_
  refine lv_iconst (v := nI 2) hx hb dL_law_558 (by decide) ?_
  refine n_iadd hx hb dL_law_559 ?_
  refine l_sld Z h (j := 5 * n + 2) (by omega) dL_law_560 ?_
  refine lv_aload_n hx hb dL_law_561 rfl (lv_at hl 2 rfl) ?_
  refine g_doneI X h (x_runSH (n := 4) X h (hw _) q658 q26 q656 q657 ⟨by decide, by decide, by decide +kernel⟩ rfl (by decide) (Nat.le_of_ble_eq_true rfl) ⟨by show cells + mc ≤ 601024; omega, by show slots + ms ≤ 7293034; omega⟩ hl.1 (Nat.le_of_ble_eq_true rfl) dL_law_562 rfl) (fun r u H locs hP h => ?_)
  obtain ⟨rfl, hP⟩ := hP
  obtain ⟨ad1, Ks1, st1⟩ := u
  obtain ⟨gm1, I1, hΦ, hL1, hW1, hG1, hk1, hs1⟩ := hP
  have h : Sx D (fun q => s.heap.size ≤ q) ad1 Ks1 (lay tc ad1 gm1 dz I1) s H locs := h.congr hs1
  obtain ⟨lv, b2, I2, hlv, hM, ht, hb2, hI2⟩ := hrr gm1 I1 hΦ ad1 Ks1 hL1
  obtain ⟨hro1, hro2⟩ := hroom gm1 I1 hΦ
  have ea : lawL ad1 b n = lawL ad b n := by
    have e0 : ad1 (0, 0, 0, 0) = ad (0, 0, 0, 0) := hk1 _ (hL (0, 0, 0, 0) ⟨rfl, rfl, rfl⟩) (by decide)
    have e30 : ad1 (30, 0, 0, 0) = ad (30, 0, 0, 0) := hk1 _ (hL (30, 0, 0, 0) ⟨by decide, rfl, rfl, rfl⟩) (by decide)
    have e50 : ad1 (50, 0, 0, 0) = ad (50, 0, 0, 0) := hk1 _ (hL (50, 0, 0, 0) ⟨by decide, rfl, rfl, rfl⟩) (by decide)
    have e51 : ad1 (51, 0, 0, 0) = ad (51, 0, 0, 0) := hk1 _ (hL (51, 0, 0, 0) ⟨by decide, rfl, rfl, rfl⟩) (by decide)
    unfold lawL
    rw [e0, e30, e50, e51]
  rw [← ea] at hl
  clear ea hk1
  refine lv_istore (lv' := (6, .int (nI k)) :: lawL ad1 b n) hx hb dL_law_565 hl (by decide) rfl (fun ls hl => ?_)
  refine lv_aload_n hx hb dL_law_567 rfl (lv_at hl 4 rfl) ?_
  refine lv_aload_n hx hb dL_law_568 rfl (lv_at hl 6 rfl) ?_
  refine lv_iload hx hb dL_law_569 (lv_at hl 1 rfl) ?_
  refine lv_iconst (v := nI 1) hx hb dL_law_571 (by decide) ?_
  refine n_iadd hx hb dL_law_572 ?_
  refine l_sld Z h (j := 5 * n + 1) (by omega) dL_law_573 ?_
  refine lv_aload_n hx hb dL_law_574 rfl (lv_at hl 6 rfl) ?_
  refine lv_iload hx hb dL_law_575 (lv_at hl 1 rfl) ?_
  refine lv_iconst (v := nI 2) hx hb dL_law_577 (by decide) ?_
  refine n_iadd hx hb dL_law_578 ?_
  refine l_sld Z h (j := 5 * n + 2) (by omega) dL_law_579 ?_
  refine x_doneI X h (x_runV X h (k := (30, 0, 0, 0)) (hM _) F_X7_state q967 q968 q969 (hL1 (30, 0, 0, 0) ⟨by decide, rfl, rfl, rfl⟩) rfl rfl rfl (by show lv + 1 ≤ 14; omega) (by show 8 + (4 + 11) + 32 * lv ≤ 550; omega) ⟨by show cells + mc + 0 ≤ 601024; omega, by show slots + ms + 0 ≤ 7293034; omega⟩ hl.1 (Nat.le_of_ble_eq_true rfl) dL_law_580 rfl) (fun H locs h => ?_)
  refine lv_istore (lv' := (7, .int b2) :: (6, .int (nI k)) :: lawL ad1 b n) hx hb dL_law_583 hl (by decide) rfl (fun ls hl => ?_)
  refine lv_aload_n hx hb dL_law_585 rfl (lv_at hl 5 rfl) ?_
  refine x_doneI X h (x_runV X h (k := (30, 0, 0, 0)) (m_X7_thrown I2 hL1 _) F_X7_thrown q849 q850 q851 (hL1 (30, 0, 0, 0) ⟨by decide, rfl, rfl, rfl⟩) rfl rfl rfl (by show 0 + 1 ≤ 14; omega) (by show 8 + (1 + 11) + 32 * 0 ≤ 550; omega) ⟨by show cells + mc + 0 + 0 ≤ 601024; omega, by show slots + ms + 0 + 0 ≤ 7293034; omega⟩ hl.1 (Nat.le_of_ble_eq_true rfl) dL_law_586 rfl) (fun H locs h => ?_)
  rw [ht]
  refine lv_iload hx hb dL_law_589 (lv_at hl 1 rfl) ?_
  refine lv_icmp_eq (tgt := 596) hx hb dL_law_591 (by decide) (fun _ => ?_) (fun q => absurd rfl q)
  refine lv_iload hx hb dL_law_596 (lv_at hl 1 rfl) ?_
  refine lv_if_ne (tgt := 613) hx hb dL_law_598 (by decide) (fun _ => ?_) (fun q => ?_)
  · refine lv_goto (tgt := 1186) hx hb dL_law_613 (by decide) ?_
    exact kk mc ms ad1 Ks1 gm1 I2 H locs ls hro1 hro2 hL1 hW1 hG1 hI2 h (lv_sub hl [2, 3, 4, 5, 6, 7] rfl)
  · skip
    refine lv_aload_n hx hb dL_law_601 rfl (lv_at hl 4 rfl) ?_
    refine lv_iconst (v := nI 0) hx hb dL_law_602 (by decide) ?_
    refine o_lald X h (hL1 (50, 0, 0, 0) ⟨by decide, rfl, rfl, rfl⟩) dL_law_603 ?_
    refine lv_iload hx hb dL_law_604 (lv_at hl 0 rfl) ?_
    refine lv_i2l hx hb dL_law_606 rfl ?_
    refine W.lcmp hx hb dL_law_607 ?_
    refine lv_if_eq (tgt := 613) hx hb dL_law_608 (by decide) (fun _ => ?_) (fun q9 => absurd ((lg_cmp_eq _ _).mpr (by rw [hb2 q])) q9)
    refine lv_goto (tgt := 1186) hx hb dL_law_613 (by decide) ?_
    exact kk mc ms ad1 Ks1 gm1 I2 H locs ls hro1 hro2 hL1 hW1 hG1 hI2 h (lv_sub hl [2, 3, 4, 5, 6, 7] rfl)
set_option maxHeartbeats 4000000 in
set_option maxRecDepth 100000 in
theorem lc_value (Z : LX p s m meth c D tc dz b L xs) (h : Sx D (fun q => s.heap.size ≤ q) ad Ks (lay tc ad gm dz I) s H locs) (hl : lv_has ls 8 (lawL ad b n)) (hi : 5 * n + 5 ≤ L) (hL : LV gm Ks) (hC : CAS l D tc dz ad Ks gm I n yL_value cL_value 7 [(0, 14, 17, 13)] yX7_value cX7_value 5 [.int (xs (5 * n + 1)), .int (xs (5 * n + 2)), .int (xs (5 * n + 3)), .int (xs (5 * n + 4))]) (hcl : cells + 3000 ≤ 601024 ∧ slots + 1100000 ≤ 7293034)
    (kk : ∀ (mc ms : Nat) (ad1 : KN → Nat) (Ks1 : List KN) (gm1 : GM) (I2 : Mem) (H1 : Heap) (locs1 : List Loc) (ls1 : Array Slot), 5 * SG gm + mc ≤ 5 * SG gm1 + 1 → 2111 * SG gm + ms ≤ 2111 * SG gm1 + 6 → LV gm1 Ks1 → LW gm1 Ks1 → GM2 gm1 → LInv I2 gm1 (n + 1) → Sx D (fun q => s.heap.size ≤ q) ad1 Ks1 (lay tc ad1 gm1 dz I2) s H1 locs1 → lv_has ls1 8 (lawL ad1 b n) → W p l e room_1 s m #[Value.ref b] below meth c H1 locs1 (cells + mc) (slots + ms) Q (F0 m 1186 ls1 [])) : W p l e room_1 s m #[Value.ref b] below meth c H locs cells slots Q (F0 m 616 ls []) := by
  obtain ⟨X, -, -, hL25⟩ := id Z
  obtain ⟨hx, hb, hmaxL, hown, hts⟩ := id X.1
  obtain ⟨k, mc, ms, Φ, hw, hrr, hroom, hm1, hm2⟩ := hC
  obtain ⟨hc1, hc2⟩ := hcl
  refine lv_aload_n hx hb dL_law_616 rfl (lv_at hl 4 rfl) ?_
  refine lv_aload_n hx hb dL_law_617 rfl (lv_at hl 5 rfl) ?_
  refine lv_iload hx hb dL_law_618 (lv_at hl 0 rfl) ?_
  refine lv_iconst (v := nI 1) hx hb dL_law_620 (by decide) ?_
  refine n_iadd hx hb dL_law_621 ?_
  refine l_sld Z h (j := 5 * n + 1) (by omega) dL_law_622 ?_
  refine lv_aload_n hx hb dL_law_623 rfl (lv_at hl 5 rfl) ?_
  refine lv_iload hx hb dL_law_624 (lv_at hl 0 rfl) ?_
  refine lv_iconst (v := nI 2) hx hb dL_law_626 (by decide) ?_
  refine n_iadd hx hb dL_law_627 ?_
  refine l_sld Z h (j := 5 * n + 2) (by omega) dL_law_628 ?_
  refine lv_aload_n hx hb dL_law_629 rfl (lv_at hl 5 rfl) ?_
  refine lv_iload hx hb dL_law_630 (lv_at hl 0 rfl) ?_
  refine lv_iconst (v := nI 3) hx hb dL_law_632 (by decide) ?_
  refine n_iadd hx hb dL_law_633 ?_
  refine l_sld Z h (j := 5 * n + 3) (by omega) dL_law_634 ?_
  refine lv_aload_n hx hb dL_law_635 rfl (lv_at hl 5 rfl) ?_
  refine lv_iload hx hb dL_law_636 (lv_at hl 0 rfl) ?_
  refine lv_iconst (v := nI 4) hx hb dL_law_638 (by decide) ?_
  refine n_iadd hx hb dL_law_639 ?_
  refine l_sld Z h (j := 5 * n + 4) (by omega) dL_law_640 ?_
  refine lv_aload_n hx hb dL_law_641 rfl (lv_at hl 2 rfl) ?_
  refine g_doneI X h (x_runSH (n := 6) X h (hw _) q666 q26 q664 q665 ⟨by decide, by decide, by decide +kernel⟩ rfl (by decide) (Nat.le_of_ble_eq_true rfl) ⟨by show cells + mc ≤ 601024; omega, by show slots + ms ≤ 7293034; omega⟩ hl.1 (Nat.le_of_ble_eq_true rfl) dL_law_642 rfl) (fun r u H locs hP h => ?_)
  obtain ⟨rfl, hP⟩ := hP
  obtain ⟨ad1, Ks1, st1⟩ := u
  obtain ⟨gm1, I1, hΦ, hL1, hW1, hG1, hk1, hs1⟩ := hP
  have h : Sx D (fun q => s.heap.size ≤ q) ad1 Ks1 (lay tc ad1 gm1 dz I1) s H locs := h.congr hs1
  obtain ⟨lv, b2, I2, hlv, hM, ht, hb2, hI2⟩ := hrr gm1 I1 hΦ ad1 Ks1 hL1
  obtain ⟨hro1, hro2⟩ := hroom gm1 I1 hΦ
  have ea : lawL ad1 b n = lawL ad b n := by
    have e0 : ad1 (0, 0, 0, 0) = ad (0, 0, 0, 0) := hk1 _ (hL (0, 0, 0, 0) ⟨rfl, rfl, rfl⟩) (by decide)
    have e30 : ad1 (30, 0, 0, 0) = ad (30, 0, 0, 0) := hk1 _ (hL (30, 0, 0, 0) ⟨by decide, rfl, rfl, rfl⟩) (by decide)
    have e50 : ad1 (50, 0, 0, 0) = ad (50, 0, 0, 0) := hk1 _ (hL (50, 0, 0, 0) ⟨by decide, rfl, rfl, rfl⟩) (by decide)
    have e51 : ad1 (51, 0, 0, 0) = ad (51, 0, 0, 0) := hk1 _ (hL (51, 0, 0, 0) ⟨by decide, rfl, rfl, rfl⟩) (by decide)
    unfold lawL
    rw [e0, e30, e50, e51]
  rw [← ea] at hl
  clear ea hk1
  refine lv_istore (lv' := (6, .int (nI k)) :: lawL ad1 b n) hx hb dL_law_645 hl (by decide) rfl (fun ls hl => ?_)
  refine lv_aload_n hx hb dL_law_647 rfl (lv_at hl 4 rfl) ?_
  refine lv_aload_n hx hb dL_law_648 rfl (lv_at hl 6 rfl) ?_
  refine lv_iload hx hb dL_law_649 (lv_at hl 1 rfl) ?_
  refine lv_iconst (v := nI 1) hx hb dL_law_651 (by decide) ?_
  refine n_iadd hx hb dL_law_652 ?_
  refine l_sld Z h (j := 5 * n + 1) (by omega) dL_law_653 ?_
  refine lv_aload_n hx hb dL_law_654 rfl (lv_at hl 6 rfl) ?_
  refine lv_iload hx hb dL_law_655 (lv_at hl 1 rfl) ?_
  refine lv_iconst (v := nI 2) hx hb dL_law_657 (by decide) ?_
  refine n_iadd hx hb dL_law_658 ?_
  refine l_sld Z h (j := 5 * n + 2) (by omega) dL_law_659 ?_
  refine lv_aload_n hx hb dL_law_660 rfl (lv_at hl 6 rfl) ?_
  refine lv_iload hx hb dL_law_661 (lv_at hl 1 rfl) ?_
  refine lv_iconst (v := nI 3) hx hb dL_law_663 (by decide) ?_
  refine n_iadd hx hb dL_law_664 ?_
  refine l_sld Z h (j := 5 * n + 3) (by omega) dL_law_665 ?_
  refine lv_aload_n hx hb dL_law_666 rfl (lv_at hl 6 rfl) ?_
  refine lv_iload hx hb dL_law_667 (lv_at hl 1 rfl) ?_
  refine lv_iconst (v := nI 4) hx hb dL_law_669 (by decide) ?_
  refine n_iadd hx hb dL_law_670 ?_
  refine l_sld Z h (j := 5 * n + 4) (by omega) dL_law_671 ?_
  refine x_doneI X h (x_runV X h (k := (30, 0, 0, 0)) (hM _) F_X7_value q971 q972 q973 (hL1 (30, 0, 0, 0) ⟨by decide, rfl, rfl, rfl⟩) rfl rfl rfl (by show lv + 1 ≤ 14; omega) (by show 8 + (5 + 11) + 32 * lv ≤ 550; omega) ⟨by show cells + mc + 0 ≤ 601024; omega, by show slots + ms + 0 ≤ 7293034; omega⟩ hl.1 (Nat.le_of_ble_eq_true rfl) dL_law_672 rfl) (fun H locs h => ?_)
  refine lv_istore (lv' := (7, .int b2) :: (6, .int (nI k)) :: lawL ad1 b n) hx hb dL_law_675 hl (by decide) rfl (fun ls hl => ?_)
  refine lv_aload_n hx hb dL_law_677 rfl (lv_at hl 5 rfl) ?_
  refine x_doneI X h (x_runV X h (k := (30, 0, 0, 0)) (m_X7_thrown I2 hL1 _) F_X7_thrown q849 q850 q851 (hL1 (30, 0, 0, 0) ⟨by decide, rfl, rfl, rfl⟩) rfl rfl rfl (by show 0 + 1 ≤ 14; omega) (by show 8 + (1 + 11) + 32 * 0 ≤ 550; omega) ⟨by show cells + mc + 0 + 0 ≤ 601024; omega, by show slots + ms + 0 + 0 ≤ 7293034; omega⟩ hl.1 (Nat.le_of_ble_eq_true rfl) dL_law_678 rfl) (fun H locs h => ?_)
  rw [ht]
  refine lv_iload hx hb dL_law_681 (lv_at hl 1 rfl) ?_
  refine lv_icmp_eq (tgt := 688) hx hb dL_law_683 (by decide) (fun _ => ?_) (fun q => absurd rfl q)
  refine lv_iload hx hb dL_law_688 (lv_at hl 1 rfl) ?_
  refine lv_if_ne (tgt := 705) hx hb dL_law_690 (by decide) (fun _ => ?_) (fun q => ?_)
  · refine lv_goto (tgt := 1186) hx hb dL_law_705 (by decide) ?_
    exact kk mc ms ad1 Ks1 gm1 I2 H locs ls hro1 hro2 hL1 hW1 hG1 hI2 h (lv_sub hl [2, 3, 4, 5, 6, 7] rfl)
  · skip
    refine lv_aload_n hx hb dL_law_693 rfl (lv_at hl 4 rfl) ?_
    refine lv_iconst (v := nI 0) hx hb dL_law_694 (by decide) ?_
    refine o_lald X h (hL1 (50, 0, 0, 0) ⟨by decide, rfl, rfl, rfl⟩) dL_law_695 ?_
    refine lv_iload hx hb dL_law_696 (lv_at hl 0 rfl) ?_
    refine lv_i2l hx hb dL_law_698 rfl ?_
    refine W.lcmp hx hb dL_law_699 ?_
    refine lv_if_eq (tgt := 705) hx hb dL_law_700 (by decide) (fun _ => ?_) (fun q9 => absurd ((lg_cmp_eq _ _).mpr (by rw [hb2 q])) q9)
    refine lv_goto (tgt := 1186) hx hb dL_law_705 (by decide) ?_
    exact kk mc ms ad1 Ks1 gm1 I2 H locs ls hro1 hro2 hL1 hW1 hG1 hI2 h (lv_sub hl [2, 3, 4, 5, 6, 7] rfl)
set_option maxHeartbeats 4000000 in
set_option maxRecDepth 100000 in
theorem lc_valueAnew (Z : LX p s m meth c D tc dz b L xs) (h : Sx D (fun q => s.heap.size ≤ q) ad Ks (lay tc ad gm dz I) s H locs) (hl : lv_has ls 8 (lawL ad b n)) (hi : 5 * n + 5 ≤ L) (hL : LV gm Ks) (hC : CAS l D tc dz ad Ks gm I n yL_valueAnew cL_valueAnew 7 [(0, 14, 17, 13)] yX7_valueAnew cX7_valueAnew 5 [.int (xs (5 * n + 1)), .int (xs (5 * n + 2)), .int (xs (5 * n + 3)), .int (xs (5 * n + 4))]) (hcl : cells + 3000 ≤ 601024 ∧ slots + 1100000 ≤ 7293034)
    (kk : ∀ (mc ms : Nat) (ad1 : KN → Nat) (Ks1 : List KN) (gm1 : GM) (I2 : Mem) (H1 : Heap) (locs1 : List Loc) (ls1 : Array Slot), 5 * SG gm + mc ≤ 5 * SG gm1 + 1 → 2111 * SG gm + ms ≤ 2111 * SG gm1 + 6 → LV gm1 Ks1 → LW gm1 Ks1 → GM2 gm1 → LInv I2 gm1 (n + 1) → Sx D (fun q => s.heap.size ≤ q) ad1 Ks1 (lay tc ad1 gm1 dz I2) s H1 locs1 → lv_has ls1 8 (lawL ad1 b n) → W p l e room_1 s m #[Value.ref b] below meth c H1 locs1 (cells + mc) (slots + ms) Q (F0 m 1186 ls1 [])) : W p l e room_1 s m #[Value.ref b] below meth c H locs cells slots Q (F0 m 708 ls []) := by
  obtain ⟨X, -, -, hL25⟩ := id Z
  obtain ⟨hx, hb, hmaxL, hown, hts⟩ := id X.1
  obtain ⟨k, mc, ms, Φ, hw, hrr, hroom, hm1, hm2⟩ := hC
  obtain ⟨hc1, hc2⟩ := hcl
  refine lv_aload_n hx hb dL_law_708 rfl (lv_at hl 4 rfl) ?_
  refine lv_aload_n hx hb dL_law_709 rfl (lv_at hl 5 rfl) ?_
  refine lv_iload hx hb dL_law_710 (lv_at hl 0 rfl) ?_
  refine lv_iconst (v := nI 1) hx hb dL_law_712 (by decide) ?_
  refine n_iadd hx hb dL_law_713 ?_
  refine l_sld Z h (j := 5 * n + 1) (by omega) dL_law_714 ?_
  refine lv_aload_n hx hb dL_law_715 rfl (lv_at hl 5 rfl) ?_
  refine lv_iload hx hb dL_law_716 (lv_at hl 0 rfl) ?_
  refine lv_iconst (v := nI 2) hx hb dL_law_718 (by decide) ?_
  refine n_iadd hx hb dL_law_719 ?_
  refine l_sld Z h (j := 5 * n + 2) (by omega) dL_law_720 ?_
  refine lv_aload_n hx hb dL_law_721 rfl (lv_at hl 5 rfl) ?_
  refine lv_iload hx hb dL_law_722 (lv_at hl 0 rfl) ?_
  refine lv_iconst (v := nI 3) hx hb dL_law_724 (by decide) ?_
  refine n_iadd hx hb dL_law_725 ?_
  refine l_sld Z h (j := 5 * n + 3) (by omega) dL_law_726 ?_
  refine lv_aload_n hx hb dL_law_727 rfl (lv_at hl 5 rfl) ?_
  refine lv_iload hx hb dL_law_728 (lv_at hl 0 rfl) ?_
  refine lv_iconst (v := nI 4) hx hb dL_law_730 (by decide) ?_
  refine n_iadd hx hb dL_law_731 ?_
  refine l_sld Z h (j := 5 * n + 4) (by omega) dL_law_732 ?_
  refine lv_aload_n hx hb dL_law_733 rfl (lv_at hl 2 rfl) ?_
  refine g_doneI X h (x_runSH (n := 6) X h (hw _) q682 q26 q680 q681 ⟨by decide, by decide, by decide +kernel⟩ rfl (by decide) (Nat.le_of_ble_eq_true rfl) ⟨by show cells + mc ≤ 601024; omega, by show slots + ms ≤ 7293034; omega⟩ hl.1 (Nat.le_of_ble_eq_true rfl) dL_law_734 rfl) (fun r u H locs hP h => ?_)
  obtain ⟨rfl, hP⟩ := hP
  obtain ⟨ad1, Ks1, st1⟩ := u
  obtain ⟨gm1, I1, hΦ, hL1, hW1, hG1, hk1, hs1⟩ := hP
  have h : Sx D (fun q => s.heap.size ≤ q) ad1 Ks1 (lay tc ad1 gm1 dz I1) s H locs := h.congr hs1
  obtain ⟨lv, b2, I2, hlv, hM, ht, hb2, hI2⟩ := hrr gm1 I1 hΦ ad1 Ks1 hL1
  obtain ⟨hro1, hro2⟩ := hroom gm1 I1 hΦ
  have ea : lawL ad1 b n = lawL ad b n := by
    have e0 : ad1 (0, 0, 0, 0) = ad (0, 0, 0, 0) := hk1 _ (hL (0, 0, 0, 0) ⟨rfl, rfl, rfl⟩) (by decide)
    have e30 : ad1 (30, 0, 0, 0) = ad (30, 0, 0, 0) := hk1 _ (hL (30, 0, 0, 0) ⟨by decide, rfl, rfl, rfl⟩) (by decide)
    have e50 : ad1 (50, 0, 0, 0) = ad (50, 0, 0, 0) := hk1 _ (hL (50, 0, 0, 0) ⟨by decide, rfl, rfl, rfl⟩) (by decide)
    have e51 : ad1 (51, 0, 0, 0) = ad (51, 0, 0, 0) := hk1 _ (hL (51, 0, 0, 0) ⟨by decide, rfl, rfl, rfl⟩) (by decide)
    unfold lawL
    rw [e0, e30, e50, e51]
  rw [← ea] at hl
  clear ea hk1
  refine lv_istore (lv' := (6, .int (nI k)) :: lawL ad1 b n) hx hb dL_law_737 hl (by decide) rfl (fun ls hl => ?_)
  refine lv_aload_n hx hb dL_law_739 rfl (lv_at hl 4 rfl) ?_
  refine lv_aload_n hx hb dL_law_740 rfl (lv_at hl 6 rfl) ?_
  refine lv_iload hx hb dL_law_741 (lv_at hl 1 rfl) ?_
  refine lv_iconst (v := nI 1) hx hb dL_law_743 (by decide) ?_
  refine n_iadd hx hb dL_law_744 ?_
  refine l_sld Z h (j := 5 * n + 1) (by omega) dL_law_745 ?_
  refine lv_aload_n hx hb dL_law_746 rfl (lv_at hl 6 rfl) ?_
  refine lv_iload hx hb dL_law_747 (lv_at hl 1 rfl) ?_
  refine lv_iconst (v := nI 2) hx hb dL_law_749 (by decide) ?_
  refine n_iadd hx hb dL_law_750 ?_
  refine l_sld Z h (j := 5 * n + 2) (by omega) dL_law_751 ?_
  refine lv_aload_n hx hb dL_law_752 rfl (lv_at hl 6 rfl) ?_
  refine lv_iload hx hb dL_law_753 (lv_at hl 1 rfl) ?_
  refine lv_iconst (v := nI 3) hx hb dL_law_755 (by decide) ?_
  refine n_iadd hx hb dL_law_756 ?_
  refine l_sld Z h (j := 5 * n + 3) (by omega) dL_law_757 ?_
  refine lv_aload_n hx hb dL_law_758 rfl (lv_at hl 6 rfl) ?_
  refine lv_iload hx hb dL_law_759 (lv_at hl 1 rfl) ?_
  refine lv_iconst (v := nI 4) hx hb dL_law_761 (by decide) ?_
  refine n_iadd hx hb dL_law_762 ?_
  refine l_sld Z h (j := 5 * n + 4) (by omega) dL_law_763 ?_
  refine x_doneI X h (x_runV X h (k := (30, 0, 0, 0)) (hM _) F_X7_valueAnew q983 q984 q985 (hL1 (30, 0, 0, 0) ⟨by decide, rfl, rfl, rfl⟩) rfl rfl rfl (by show lv + 1 ≤ 14; omega) (by show 8 + (5 + 11) + 32 * lv ≤ 550; omega) ⟨by show cells + mc + 0 ≤ 601024; omega, by show slots + ms + 0 ≤ 7293034; omega⟩ hl.1 (Nat.le_of_ble_eq_true rfl) dL_law_764 rfl) (fun H locs h => ?_)
  refine lv_istore (lv' := (7, .int b2) :: (6, .int (nI k)) :: lawL ad1 b n) hx hb dL_law_767 hl (by decide) rfl (fun ls hl => ?_)
  refine lv_aload_n hx hb dL_law_769 rfl (lv_at hl 5 rfl) ?_
  refine x_doneI X h (x_runV X h (k := (30, 0, 0, 0)) (m_X7_thrown I2 hL1 _) F_X7_thrown q849 q850 q851 (hL1 (30, 0, 0, 0) ⟨by decide, rfl, rfl, rfl⟩) rfl rfl rfl (by show 0 + 1 ≤ 14; omega) (by show 8 + (1 + 11) + 32 * 0 ≤ 550; omega) ⟨by show cells + mc + 0 + 0 ≤ 601024; omega, by show slots + ms + 0 + 0 ≤ 7293034; omega⟩ hl.1 (Nat.le_of_ble_eq_true rfl) dL_law_770 rfl) (fun H locs h => ?_)
  rw [ht]
  refine lv_iload hx hb dL_law_773 (lv_at hl 1 rfl) ?_
  refine lv_icmp_eq (tgt := 780) hx hb dL_law_775 (by decide) (fun _ => ?_) (fun q => absurd rfl q)
  refine lv_iload hx hb dL_law_780 (lv_at hl 1 rfl) ?_
  refine lv_if_ne (tgt := 797) hx hb dL_law_782 (by decide) (fun _ => ?_) (fun q => ?_)
  · refine lv_goto (tgt := 1186) hx hb dL_law_797 (by decide) ?_
    exact kk mc ms ad1 Ks1 gm1 I2 H locs ls hro1 hro2 hL1 hW1 hG1 hI2 h (lv_sub hl [2, 3, 4, 5, 6, 7] rfl)
  · skip
    refine lv_aload_n hx hb dL_law_785 rfl (lv_at hl 4 rfl) ?_
    refine lv_iconst (v := nI 0) hx hb dL_law_786 (by decide) ?_
    refine o_lald X h (hL1 (50, 0, 0, 0) ⟨by decide, rfl, rfl, rfl⟩) dL_law_787 ?_
    refine lv_iload hx hb dL_law_788 (lv_at hl 0 rfl) ?_
    refine lv_i2l hx hb dL_law_790 rfl ?_
    refine W.lcmp hx hb dL_law_791 ?_
    refine lv_if_eq (tgt := 797) hx hb dL_law_792 (by decide) (fun _ => ?_) (fun q9 => absurd ((lg_cmp_eq _ _).mpr (by rw [hb2 q])) q9)
    refine lv_goto (tgt := 1186) hx hb dL_law_797 (by decide) ?_
    exact kk mc ms ad1 Ks1 gm1 I2 H locs ls hro1 hro2 hL1 hW1 hG1 hI2 h (lv_sub hl [2, 3, 4, 5, 6, 7] rfl)
set_option maxHeartbeats 4000000 in
set_option maxRecDepth 100000 in
theorem lc_values (Z : LX p s m meth c D tc dz b L xs) (h : Sx D (fun q => s.heap.size ≤ q) ad Ks (lay tc ad gm dz I) s H locs) (hl : lv_has ls 8 (lawL ad b n)) (hi : 5 * n + 5 ≤ L) (hL : LV gm Ks) (hC : CAS l D tc dz ad Ks gm I n yL_values cL_values 6 [(0, 12, 15, 13)] yX7_values cX7_values 5 [.int (xs (5 * n + 1)), .int (xs (5 * n + 2)), .int (xs (5 * n + 3))]) (hcl : cells + 3000 ≤ 601024 ∧ slots + 1100000 ≤ 7293034)
    (kk : ∀ (mc ms : Nat) (ad1 : KN → Nat) (Ks1 : List KN) (gm1 : GM) (I2 : Mem) (H1 : Heap) (locs1 : List Loc) (ls1 : Array Slot), 5 * SG gm + mc ≤ 5 * SG gm1 + 1 → 2111 * SG gm + ms ≤ 2111 * SG gm1 + 6 → LV gm1 Ks1 → LW gm1 Ks1 → GM2 gm1 → LInv I2 gm1 (n + 1) → Sx D (fun q => s.heap.size ≤ q) ad1 Ks1 (lay tc ad1 gm1 dz I2) s H1 locs1 → lv_has ls1 8 (lawL ad1 b n) → W p l e room_1 s m #[Value.ref b] below meth c H1 locs1 (cells + mc) (slots + ms) Q (F0 m 1186 ls1 [])) : W p l e room_1 s m #[Value.ref b] below meth c H locs cells slots Q (F0 m 800 ls []) := by
  obtain ⟨X, -, -, hL25⟩ := id Z
  obtain ⟨hx, hb, hmaxL, hown, hts⟩ := id X.1
  obtain ⟨k, mc, ms, Φ, hw, hrr, hroom, hm1, hm2⟩ := hC
  obtain ⟨hc1, hc2⟩ := hcl
  refine lv_aload_n hx hb dL_law_800 rfl (lv_at hl 4 rfl) ?_
  refine lv_aload_n hx hb dL_law_801 rfl (lv_at hl 5 rfl) ?_
  refine lv_iload hx hb dL_law_802 (lv_at hl 0 rfl) ?_
  refine lv_iconst (v := nI 1) hx hb dL_law_804 (by decide) ?_
  refine n_iadd hx hb dL_law_805 ?_
  refine l_sld Z h (j := 5 * n + 1) (by omega) dL_law_806 ?_
  refine lv_aload_n hx hb dL_law_807 rfl (lv_at hl 5 rfl) ?_
  refine lv_iload hx hb dL_law_808 (lv_at hl 0 rfl) ?_
  refine lv_iconst (v := nI 2) hx hb dL_law_810 (by decide) ?_
  refine n_iadd hx hb dL_law_811 ?_
  refine l_sld Z h (j := 5 * n + 2) (by omega) dL_law_812 ?_
  refine lv_aload_n hx hb dL_law_813 rfl (lv_at hl 5 rfl) ?_
  refine lv_iload hx hb dL_law_814 (lv_at hl 0 rfl) ?_
  refine lv_iconst (v := nI 3) hx hb dL_law_816 (by decide) ?_
  refine n_iadd hx hb dL_law_817 ?_
  refine l_sld Z h (j := 5 * n + 3) (by omega) dL_law_818 ?_
  refine lv_aload_n hx hb dL_law_819 rfl (lv_at hl 2 rfl) ?_
  refine g_doneI X h (x_runSH (n := 5) X h (hw _) q713 q26 q711 q712 ⟨by decide, by decide, by decide +kernel⟩ rfl (by decide) (Nat.le_of_ble_eq_true rfl) ⟨by show cells + mc ≤ 601024; omega, by show slots + ms ≤ 7293034; omega⟩ hl.1 (Nat.le_of_ble_eq_true rfl) dL_law_820 rfl) (fun r u H locs hP h => ?_)
  obtain ⟨rfl, hP⟩ := hP
  obtain ⟨ad1, Ks1, st1⟩ := u
  obtain ⟨gm1, I1, hΦ, hL1, hW1, hG1, hk1, hs1⟩ := hP
  have h : Sx D (fun q => s.heap.size ≤ q) ad1 Ks1 (lay tc ad1 gm1 dz I1) s H locs := h.congr hs1
  obtain ⟨lv, b2, I2, hlv, hM, ht, hb2, hI2⟩ := hrr gm1 I1 hΦ ad1 Ks1 hL1
  obtain ⟨hro1, hro2⟩ := hroom gm1 I1 hΦ
  have ea : lawL ad1 b n = lawL ad b n := by
    have e0 : ad1 (0, 0, 0, 0) = ad (0, 0, 0, 0) := hk1 _ (hL (0, 0, 0, 0) ⟨rfl, rfl, rfl⟩) (by decide)
    have e30 : ad1 (30, 0, 0, 0) = ad (30, 0, 0, 0) := hk1 _ (hL (30, 0, 0, 0) ⟨by decide, rfl, rfl, rfl⟩) (by decide)
    have e50 : ad1 (50, 0, 0, 0) = ad (50, 0, 0, 0) := hk1 _ (hL (50, 0, 0, 0) ⟨by decide, rfl, rfl, rfl⟩) (by decide)
    have e51 : ad1 (51, 0, 0, 0) = ad (51, 0, 0, 0) := hk1 _ (hL (51, 0, 0, 0) ⟨by decide, rfl, rfl, rfl⟩) (by decide)
    unfold lawL
    rw [e0, e30, e50, e51]
  rw [← ea] at hl
  clear ea hk1
  refine lv_istore (lv' := (6, .int (nI k)) :: lawL ad1 b n) hx hb dL_law_823 hl (by decide) rfl (fun ls hl => ?_)
  refine lv_aload_n hx hb dL_law_825 rfl (lv_at hl 4 rfl) ?_
  refine lv_aload_n hx hb dL_law_826 rfl (lv_at hl 6 rfl) ?_
  refine lv_iload hx hb dL_law_827 (lv_at hl 1 rfl) ?_
  refine lv_iconst (v := nI 1) hx hb dL_law_829 (by decide) ?_
  refine n_iadd hx hb dL_law_830 ?_
  refine l_sld Z h (j := 5 * n + 1) (by omega) dL_law_831 ?_
  refine lv_aload_n hx hb dL_law_832 rfl (lv_at hl 6 rfl) ?_
  refine lv_iload hx hb dL_law_833 (lv_at hl 1 rfl) ?_
  refine lv_iconst (v := nI 2) hx hb dL_law_835 (by decide) ?_
  refine n_iadd hx hb dL_law_836 ?_
  refine l_sld Z h (j := 5 * n + 2) (by omega) dL_law_837 ?_
  refine lv_aload_n hx hb dL_law_838 rfl (lv_at hl 6 rfl) ?_
  refine lv_iload hx hb dL_law_839 (lv_at hl 1 rfl) ?_
  refine lv_iconst (v := nI 3) hx hb dL_law_841 (by decide) ?_
  refine n_iadd hx hb dL_law_842 ?_
  refine l_sld Z h (j := 5 * n + 3) (by omega) dL_law_843 ?_
  refine x_doneI X h (x_runV X h (k := (30, 0, 0, 0)) (hM _) F_X7_values q987 q988 q989 (hL1 (30, 0, 0, 0) ⟨by decide, rfl, rfl, rfl⟩) rfl rfl rfl (by show lv + 1 ≤ 14; omega) (by show 8 + (5 + 11) + 32 * lv ≤ 550; omega) ⟨by show cells + mc + 0 ≤ 601024; omega, by show slots + ms + 0 ≤ 7293034; omega⟩ hl.1 (Nat.le_of_ble_eq_true rfl) dL_law_844 rfl) (fun H locs h => ?_)
  refine lv_istore (lv' := (7, .int b2) :: (6, .int (nI k)) :: lawL ad1 b n) hx hb dL_law_847 hl (by decide) rfl (fun ls hl => ?_)
  refine lv_aload_n hx hb dL_law_849 rfl (lv_at hl 5 rfl) ?_
  refine x_doneI X h (x_runV X h (k := (30, 0, 0, 0)) (m_X7_thrown I2 hL1 _) F_X7_thrown q849 q850 q851 (hL1 (30, 0, 0, 0) ⟨by decide, rfl, rfl, rfl⟩) rfl rfl rfl (by show 0 + 1 ≤ 14; omega) (by show 8 + (1 + 11) + 32 * 0 ≤ 550; omega) ⟨by show cells + mc + 0 + 0 ≤ 601024; omega, by show slots + ms + 0 + 0 ≤ 7293034; omega⟩ hl.1 (Nat.le_of_ble_eq_true rfl) dL_law_850 rfl) (fun H locs h => ?_)
  rw [ht]
  refine lv_iload hx hb dL_law_853 (lv_at hl 1 rfl) ?_
  refine lv_icmp_eq (tgt := 860) hx hb dL_law_855 (by decide) (fun _ => ?_) (fun q => absurd rfl q)
  refine lv_iload hx hb dL_law_860 (lv_at hl 1 rfl) ?_
  refine lv_if_ne (tgt := 877) hx hb dL_law_862 (by decide) (fun _ => ?_) (fun q => ?_)
  · refine lv_goto (tgt := 1186) hx hb dL_law_877 (by decide) ?_
    exact kk mc ms ad1 Ks1 gm1 I2 H locs ls hro1 hro2 hL1 hW1 hG1 hI2 h (lv_sub hl [2, 3, 4, 5, 6, 7] rfl)
  · skip
    refine lv_aload_n hx hb dL_law_865 rfl (lv_at hl 4 rfl) ?_
    refine lv_iconst (v := nI 0) hx hb dL_law_866 (by decide) ?_
    refine o_lald X h (hL1 (50, 0, 0, 0) ⟨by decide, rfl, rfl, rfl⟩) dL_law_867 ?_
    refine lv_iload hx hb dL_law_868 (lv_at hl 0 rfl) ?_
    refine lv_i2l hx hb dL_law_870 rfl ?_
    refine W.lcmp hx hb dL_law_871 ?_
    refine lv_if_eq (tgt := 877) hx hb dL_law_872 (by decide) (fun _ => ?_) (fun q9 => absurd ((lg_cmp_eq _ _).mpr (by rw [hb2 q])) q9)
    refine lv_goto (tgt := 1186) hx hb dL_law_877 (by decide) ?_
    exact kk mc ms ad1 Ks1 gm1 I2 H locs ls hro1 hro2 hL1 hW1 hG1 hI2 h (lv_sub hl [2, 3, 4, 5, 6, 7] rfl)
set_option maxHeartbeats 4000000 in
set_option maxRecDepth 100000 in
theorem lc_seen (Z : LX p s m meth c D tc dz b L xs) (h : Sx D (fun q => s.heap.size ≤ q) ad Ks (lay tc ad gm dz I) s H locs) (hl : lv_has ls 8 (lawL ad b n)) (hi : 5 * n + 5 ≤ L) (hL : LV gm Ks) (hC : CAS l D tc dz ad Ks gm I n yL_seen cL_seen 7 [(0, 14, 17, 13)] yX7_seen cX7_seen 6 [.int (xs (5 * n + 1)), .int (xs (5 * n + 2)), .int (xs (5 * n + 3)), .int (xs (5 * n + 4))]) (hcl : cells + 3000 ≤ 601024 ∧ slots + 1100000 ≤ 7293034)
    (kk : ∀ (mc ms : Nat) (ad1 : KN → Nat) (Ks1 : List KN) (gm1 : GM) (I2 : Mem) (H1 : Heap) (locs1 : List Loc) (ls1 : Array Slot), 5 * SG gm + mc ≤ 5 * SG gm1 + 1 → 2111 * SG gm + ms ≤ 2111 * SG gm1 + 6 → LV gm1 Ks1 → LW gm1 Ks1 → GM2 gm1 → LInv I2 gm1 (n + 1) → Sx D (fun q => s.heap.size ≤ q) ad1 Ks1 (lay tc ad1 gm1 dz I2) s H1 locs1 → lv_has ls1 8 (lawL ad1 b n) → W p l e room_1 s m #[Value.ref b] below meth c H1 locs1 (cells + mc) (slots + ms) Q (F0 m 1186 ls1 [])) : W p l e room_1 s m #[Value.ref b] below meth c H locs cells slots Q (F0 m 880 ls []) := by
  obtain ⟨X, -, -, hL25⟩ := id Z
  obtain ⟨hx, hb, hmaxL, hown, hts⟩ := id X.1
  obtain ⟨k, mc, ms, Φ, hw, hrr, hroom, hm1, hm2⟩ := hC
  obtain ⟨hc1, hc2⟩ := hcl
  refine lv_aload_n hx hb dL_law_880 rfl (lv_at hl 4 rfl) ?_
  refine lv_aload_n hx hb dL_law_881 rfl (lv_at hl 5 rfl) ?_
  refine lv_iload hx hb dL_law_882 (lv_at hl 0 rfl) ?_
  refine lv_iconst (v := nI 1) hx hb dL_law_884 (by decide) ?_
  refine n_iadd hx hb dL_law_885 ?_
  refine l_sld Z h (j := 5 * n + 1) (by omega) dL_law_886 ?_
  refine lv_aload_n hx hb dL_law_887 rfl (lv_at hl 5 rfl) ?_
  refine lv_iload hx hb dL_law_888 (lv_at hl 0 rfl) ?_
  refine lv_iconst (v := nI 2) hx hb dL_law_890 (by decide) ?_
  refine n_iadd hx hb dL_law_891 ?_
  refine l_sld Z h (j := 5 * n + 2) (by omega) dL_law_892 ?_
  refine lv_aload_n hx hb dL_law_893 rfl (lv_at hl 5 rfl) ?_
  refine lv_iload hx hb dL_law_894 (lv_at hl 0 rfl) ?_
  refine lv_iconst (v := nI 3) hx hb dL_law_896 (by decide) ?_
  refine n_iadd hx hb dL_law_897 ?_
  refine l_sld Z h (j := 5 * n + 3) (by omega) dL_law_898 ?_
  refine lv_aload_n hx hb dL_law_899 rfl (lv_at hl 5 rfl) ?_
  refine lv_iload hx hb dL_law_900 (lv_at hl 0 rfl) ?_
  refine lv_iconst (v := nI 4) hx hb dL_law_902 (by decide) ?_
  refine n_iadd hx hb dL_law_903 ?_
  refine l_sld Z h (j := 5 * n + 4) (by omega) dL_law_904 ?_
  refine lv_aload_n hx hb dL_law_905 rfl (lv_at hl 2 rfl) ?_
  refine g_doneI X h (x_runSH (n := 6) X h (hw _) q720 q26 q718 q719 ⟨by decide, by decide, by decide +kernel⟩ rfl (by decide) (Nat.le_of_ble_eq_true rfl) ⟨by show cells + mc ≤ 601024; omega, by show slots + ms ≤ 7293034; omega⟩ hl.1 (Nat.le_of_ble_eq_true rfl) dL_law_906 rfl) (fun r u H locs hP h => ?_)
  obtain ⟨rfl, hP⟩ := hP
  obtain ⟨ad1, Ks1, st1⟩ := u
  obtain ⟨gm1, I1, hΦ, hL1, hW1, hG1, hk1, hs1⟩ := hP
  have h : Sx D (fun q => s.heap.size ≤ q) ad1 Ks1 (lay tc ad1 gm1 dz I1) s H locs := h.congr hs1
  obtain ⟨lv, b2, I2, hlv, hM, ht, hb2, hI2⟩ := hrr gm1 I1 hΦ ad1 Ks1 hL1
  obtain ⟨hro1, hro2⟩ := hroom gm1 I1 hΦ
  have ea : lawL ad1 b n = lawL ad b n := by
    have e0 : ad1 (0, 0, 0, 0) = ad (0, 0, 0, 0) := hk1 _ (hL (0, 0, 0, 0) ⟨rfl, rfl, rfl⟩) (by decide)
    have e30 : ad1 (30, 0, 0, 0) = ad (30, 0, 0, 0) := hk1 _ (hL (30, 0, 0, 0) ⟨by decide, rfl, rfl, rfl⟩) (by decide)
    have e50 : ad1 (50, 0, 0, 0) = ad (50, 0, 0, 0) := hk1 _ (hL (50, 0, 0, 0) ⟨by decide, rfl, rfl, rfl⟩) (by decide)
    have e51 : ad1 (51, 0, 0, 0) = ad (51, 0, 0, 0) := hk1 _ (hL (51, 0, 0, 0) ⟨by decide, rfl, rfl, rfl⟩) (by decide)
    unfold lawL
    rw [e0, e30, e50, e51]
  rw [← ea] at hl
  clear ea hk1
  refine lv_istore (lv' := (6, .int (nI k)) :: lawL ad1 b n) hx hb dL_law_909 hl (by decide) rfl (fun ls hl => ?_)
  refine lv_aload_n hx hb dL_law_911 rfl (lv_at hl 4 rfl) ?_
  refine lv_aload_n hx hb dL_law_912 rfl (lv_at hl 6 rfl) ?_
  refine lv_iload hx hb dL_law_913 (lv_at hl 1 rfl) ?_
  refine lv_iconst (v := nI 1) hx hb dL_law_915 (by decide) ?_
  refine n_iadd hx hb dL_law_916 ?_
  refine l_sld Z h (j := 5 * n + 1) (by omega) dL_law_917 ?_
  refine lv_aload_n hx hb dL_law_918 rfl (lv_at hl 6 rfl) ?_
  refine lv_iload hx hb dL_law_919 (lv_at hl 1 rfl) ?_
  refine lv_iconst (v := nI 2) hx hb dL_law_921 (by decide) ?_
  refine n_iadd hx hb dL_law_922 ?_
  refine l_sld Z h (j := 5 * n + 2) (by omega) dL_law_923 ?_
  refine lv_aload_n hx hb dL_law_924 rfl (lv_at hl 6 rfl) ?_
  refine lv_iload hx hb dL_law_925 (lv_at hl 1 rfl) ?_
  refine lv_iconst (v := nI 3) hx hb dL_law_927 (by decide) ?_
  refine n_iadd hx hb dL_law_928 ?_
  refine l_sld Z h (j := 5 * n + 3) (by omega) dL_law_929 ?_
  refine lv_aload_n hx hb dL_law_930 rfl (lv_at hl 6 rfl) ?_
  refine lv_iload hx hb dL_law_931 (lv_at hl 1 rfl) ?_
  refine lv_iconst (v := nI 4) hx hb dL_law_933 (by decide) ?_
  refine n_iadd hx hb dL_law_934 ?_
  refine l_sld Z h (j := 5 * n + 4) (by omega) dL_law_935 ?_
  refine x_doneI X h (x_runV X h (k := (30, 0, 0, 0)) (hM _) F_X7_seen q991 q992 q993 (hL1 (30, 0, 0, 0) ⟨by decide, rfl, rfl, rfl⟩) rfl rfl rfl (by show lv + 1 ≤ 14; omega) (by show 8 + (6 + 11) + 32 * lv ≤ 550; omega) ⟨by show cells + mc + 0 ≤ 601024; omega, by show slots + ms + 0 ≤ 7293034; omega⟩ hl.1 (Nat.le_of_ble_eq_true rfl) dL_law_936 rfl) (fun H locs h => ?_)
  refine lv_istore (lv' := (7, .int b2) :: (6, .int (nI k)) :: lawL ad1 b n) hx hb dL_law_939 hl (by decide) rfl (fun ls hl => ?_)
  refine lv_aload_n hx hb dL_law_941 rfl (lv_at hl 5 rfl) ?_
  refine x_doneI X h (x_runV X h (k := (30, 0, 0, 0)) (m_X7_thrown I2 hL1 _) F_X7_thrown q849 q850 q851 (hL1 (30, 0, 0, 0) ⟨by decide, rfl, rfl, rfl⟩) rfl rfl rfl (by show 0 + 1 ≤ 14; omega) (by show 8 + (1 + 11) + 32 * 0 ≤ 550; omega) ⟨by show cells + mc + 0 + 0 ≤ 601024; omega, by show slots + ms + 0 + 0 ≤ 7293034; omega⟩ hl.1 (Nat.le_of_ble_eq_true rfl) dL_law_942 rfl) (fun H locs h => ?_)
  rw [ht]
  refine lv_iload hx hb dL_law_945 (lv_at hl 1 rfl) ?_
  refine lv_icmp_eq (tgt := 952) hx hb dL_law_947 (by decide) (fun _ => ?_) (fun q => absurd rfl q)
  refine lv_iload hx hb dL_law_952 (lv_at hl 1 rfl) ?_
  refine lv_if_ne (tgt := 969) hx hb dL_law_954 (by decide) (fun _ => ?_) (fun q => ?_)
  · refine lv_goto (tgt := 1186) hx hb dL_law_969 (by decide) ?_
    exact kk mc ms ad1 Ks1 gm1 I2 H locs ls hro1 hro2 hL1 hW1 hG1 hI2 h (lv_sub hl [2, 3, 4, 5, 6, 7] rfl)
  · skip
    refine lv_aload_n hx hb dL_law_957 rfl (lv_at hl 4 rfl) ?_
    refine lv_iconst (v := nI 0) hx hb dL_law_958 (by decide) ?_
    refine o_lald X h (hL1 (50, 0, 0, 0) ⟨by decide, rfl, rfl, rfl⟩) dL_law_959 ?_
    refine lv_iload hx hb dL_law_960 (lv_at hl 0 rfl) ?_
    refine lv_i2l hx hb dL_law_962 rfl ?_
    refine W.lcmp hx hb dL_law_963 ?_
    refine lv_if_eq (tgt := 969) hx hb dL_law_964 (by decide) (fun _ => ?_) (fun q9 => absurd ((lg_cmp_eq _ _).mpr (by rw [hb2 q])) q9)
    refine lv_goto (tgt := 1186) hx hb dL_law_969 (by decide) ?_
    exact kk mc ms ad1 Ks1 gm1 I2 H locs ls hro1 hro2 hL1 hW1 hG1 hI2 h (lv_sub hl [2, 3, 4, 5, 6, 7] rfl)
set_option maxHeartbeats 4000000 in
set_option maxRecDepth 100000 in
theorem lc_marks (Z : LX p s m meth c D tc dz b L xs) (h : Sx D (fun q => s.heap.size ≤ q) ad Ks (lay tc ad gm dz I) s H locs) (hl : lv_has ls 8 (lawL ad b n)) (hi : 5 * n + 5 ≤ L) (hL : LV gm Ks) (hC : CAS l D tc dz ad Ks gm I n yL_marks cL_marks 5 [(0, 10, 13, 13)] yX7_marks cX7_marks 6 [.int (xs (5 * n + 1)), .int (xs (5 * n + 2))]) (hcl : cells + 3000 ≤ 601024 ∧ slots + 1100000 ≤ 7293034)
    (kk : ∀ (mc ms : Nat) (ad1 : KN → Nat) (Ks1 : List KN) (gm1 : GM) (I2 : Mem) (H1 : Heap) (locs1 : List Loc) (ls1 : Array Slot), 5 * SG gm + mc ≤ 5 * SG gm1 + 1 → 2111 * SG gm + ms ≤ 2111 * SG gm1 + 6 → LV gm1 Ks1 → LW gm1 Ks1 → GM2 gm1 → LInv I2 gm1 (n + 1) → Sx D (fun q => s.heap.size ≤ q) ad1 Ks1 (lay tc ad1 gm1 dz I2) s H1 locs1 → lv_has ls1 8 (lawL ad1 b n) → W p l e room_1 s m #[Value.ref b] below meth c H1 locs1 (cells + mc) (slots + ms) Q (F0 m 1186 ls1 [])) : W p l e room_1 s m #[Value.ref b] below meth c H locs cells slots Q (F0 m 972 ls []) := by
  obtain ⟨X, -, -, hL25⟩ := id Z
  obtain ⟨hx, hb, hmaxL, hown, hts⟩ := id X.1
  obtain ⟨k, mc, ms, Φ, hw, hrr, hroom, hm1, hm2⟩ := hC
  obtain ⟨hc1, hc2⟩ := hcl
  refine lv_aload_n hx hb dL_law_972 rfl (lv_at hl 4 rfl) ?_
  refine lv_aload_n hx hb dL_law_973 rfl (lv_at hl 5 rfl) ?_
  refine lv_iload hx hb dL_law_974 (lv_at hl 0 rfl) ?_
  refine lv_iconst (v := nI 1) hx hb dL_law_976 (by decide) ?_
  refine n_iadd hx hb dL_law_977 ?_
  refine l_sld Z h (j := 5 * n + 1) (by omega) dL_law_978 ?_
  refine lv_aload_n hx hb dL_law_979 rfl (lv_at hl 5 rfl) ?_
  refine lv_iload hx hb dL_law_980 (lv_at hl 0 rfl) ?_
  refine lv_iconst (v := nI 2) hx hb dL_law_982 (by decide) ?_
  refine n_iadd hx hb dL_law_983 ?_
  refine l_sld Z h (j := 5 * n + 2) (by omega) dL_law_984 ?_
  refine lv_aload_n hx hb dL_law_985 rfl (lv_at hl 2 rfl) ?_
  refine g_doneI X h (x_runSH (n := 4) X h (hw _) q728 q26 q726 q727 ⟨by decide, by decide, by decide +kernel⟩ rfl (by decide) (Nat.le_of_ble_eq_true rfl) ⟨by show cells + mc ≤ 601024; omega, by show slots + ms ≤ 7293034; omega⟩ hl.1 (Nat.le_of_ble_eq_true rfl) dL_law_986 rfl) (fun r u H locs hP h => ?_)
  obtain ⟨rfl, hP⟩ := hP
  obtain ⟨ad1, Ks1, st1⟩ := u
  obtain ⟨gm1, I1, hΦ, hL1, hW1, hG1, hk1, hs1⟩ := hP
  have h : Sx D (fun q => s.heap.size ≤ q) ad1 Ks1 (lay tc ad1 gm1 dz I1) s H locs := h.congr hs1
  obtain ⟨lv, b2, I2, hlv, hM, ht, hb2, hI2⟩ := hrr gm1 I1 hΦ ad1 Ks1 hL1
  obtain ⟨hro1, hro2⟩ := hroom gm1 I1 hΦ
  have ea : lawL ad1 b n = lawL ad b n := by
    have e0 : ad1 (0, 0, 0, 0) = ad (0, 0, 0, 0) := hk1 _ (hL (0, 0, 0, 0) ⟨rfl, rfl, rfl⟩) (by decide)
    have e30 : ad1 (30, 0, 0, 0) = ad (30, 0, 0, 0) := hk1 _ (hL (30, 0, 0, 0) ⟨by decide, rfl, rfl, rfl⟩) (by decide)
    have e50 : ad1 (50, 0, 0, 0) = ad (50, 0, 0, 0) := hk1 _ (hL (50, 0, 0, 0) ⟨by decide, rfl, rfl, rfl⟩) (by decide)
    have e51 : ad1 (51, 0, 0, 0) = ad (51, 0, 0, 0) := hk1 _ (hL (51, 0, 0, 0) ⟨by decide, rfl, rfl, rfl⟩) (by decide)
    unfold lawL
    rw [e0, e30, e50, e51]
  rw [← ea] at hl
  clear ea hk1
  refine lv_istore (lv' := (6, .int (nI k)) :: lawL ad1 b n) hx hb dL_law_989 hl (by decide) rfl (fun ls hl => ?_)
  refine lv_aload_n hx hb dL_law_991 rfl (lv_at hl 4 rfl) ?_
  refine lv_aload_n hx hb dL_law_992 rfl (lv_at hl 6 rfl) ?_
  refine lv_iload hx hb dL_law_993 (lv_at hl 1 rfl) ?_
  refine lv_iconst (v := nI 1) hx hb dL_law_995 (by decide) ?_
  refine n_iadd hx hb dL_law_996 ?_
  refine l_sld Z h (j := 5 * n + 1) (by omega) dL_law_997 ?_
  refine lv_aload_n hx hb dL_law_998 rfl (lv_at hl 6 rfl) ?_
  refine lv_iload hx hb dL_law_999 (lv_at hl 1 rfl) ?_
  refine lv_iconst (v := nI 2) hx hb dL_law_1001 (by decide) ?_
  refine n_iadd hx hb dL_law_1002 ?_
  refine l_sld Z h (j := 5 * n + 2) (by omega) dL_law_1003 ?_
  refine x_doneI X h (x_runV X h (k := (30, 0, 0, 0)) (hM _) F_X7_marks q995 q996 q997 (hL1 (30, 0, 0, 0) ⟨by decide, rfl, rfl, rfl⟩) rfl rfl rfl (by show lv + 1 ≤ 14; omega) (by show 8 + (6 + 11) + 32 * lv ≤ 550; omega) ⟨by show cells + mc + 0 ≤ 601024; omega, by show slots + ms + 0 ≤ 7293034; omega⟩ hl.1 (Nat.le_of_ble_eq_true rfl) dL_law_1004 rfl) (fun H locs h => ?_)
  refine lv_istore (lv' := (7, .int b2) :: (6, .int (nI k)) :: lawL ad1 b n) hx hb dL_law_1007 hl (by decide) rfl (fun ls hl => ?_)
  refine lv_aload_n hx hb dL_law_1009 rfl (lv_at hl 5 rfl) ?_
  refine x_doneI X h (x_runV X h (k := (30, 0, 0, 0)) (m_X7_thrown I2 hL1 _) F_X7_thrown q849 q850 q851 (hL1 (30, 0, 0, 0) ⟨by decide, rfl, rfl, rfl⟩) rfl rfl rfl (by show 0 + 1 ≤ 14; omega) (by show 8 + (1 + 11) + 32 * 0 ≤ 550; omega) ⟨by show cells + mc + 0 + 0 ≤ 601024; omega, by show slots + ms + 0 + 0 ≤ 7293034; omega⟩ hl.1 (Nat.le_of_ble_eq_true rfl) dL_law_1010 rfl) (fun H locs h => ?_)
  rw [ht]
  refine lv_iload hx hb dL_law_1013 (lv_at hl 1 rfl) ?_
  refine lv_icmp_eq (tgt := 1020) hx hb dL_law_1015 (by decide) (fun _ => ?_) (fun q => absurd rfl q)
  refine lv_iload hx hb dL_law_1020 (lv_at hl 1 rfl) ?_
  refine lv_if_ne (tgt := 1037) hx hb dL_law_1022 (by decide) (fun _ => ?_) (fun q => ?_)
  · refine lv_goto (tgt := 1186) hx hb dL_law_1037 (by decide) ?_
    exact kk mc ms ad1 Ks1 gm1 I2 H locs ls hro1 hro2 hL1 hW1 hG1 hI2 h (lv_sub hl [2, 3, 4, 5, 6, 7] rfl)
  · skip
    refine lv_aload_n hx hb dL_law_1025 rfl (lv_at hl 4 rfl) ?_
    refine lv_iconst (v := nI 0) hx hb dL_law_1026 (by decide) ?_
    refine o_lald X h (hL1 (50, 0, 0, 0) ⟨by decide, rfl, rfl, rfl⟩) dL_law_1027 ?_
    refine lv_iload hx hb dL_law_1028 (lv_at hl 0 rfl) ?_
    refine lv_i2l hx hb dL_law_1030 rfl ?_
    refine W.lcmp hx hb dL_law_1031 ?_
    refine lv_if_eq (tgt := 1037) hx hb dL_law_1032 (by decide) (fun _ => ?_) (fun q9 => absurd ((lg_cmp_eq _ _).mpr (by rw [hb2 q])) q9)
    refine lv_goto (tgt := 1186) hx hb dL_law_1037 (by decide) ?_
    exact kk mc ms ad1 Ks1 gm1 I2 H locs ls hro1 hro2 hL1 hW1 hG1 hI2 h (lv_sub hl [2, 3, 4, 5, 6, 7] rfl)
set_option maxHeartbeats 4000000 in
set_option maxRecDepth 100000 in
theorem lc_clashes (Z : LX p s m meth c D tc dz b L xs) (h : Sx D (fun q => s.heap.size ≤ q) ad Ks (lay tc ad gm dz I) s H locs) (hl : lv_has ls 8 (lawL ad b n)) (hi : 5 * n + 5 ≤ L) (hL : LV gm Ks) (hC : CAS l D tc dz ad Ks gm I n yL_clashes cL_clashes 4 [(0, 9, 12, 13)] yX7_clashes cX7_clashes 5 [.int (xs (5 * n + 1))]) (hcl : cells + 3000 ≤ 601024 ∧ slots + 1100000 ≤ 7293034)
    (kk : ∀ (mc ms : Nat) (ad1 : KN → Nat) (Ks1 : List KN) (gm1 : GM) (I2 : Mem) (H1 : Heap) (locs1 : List Loc) (ls1 : Array Slot), 5 * SG gm + mc ≤ 5 * SG gm1 + 1 → 2111 * SG gm + ms ≤ 2111 * SG gm1 + 6 → LV gm1 Ks1 → LW gm1 Ks1 → GM2 gm1 → LInv I2 gm1 (n + 1) → Sx D (fun q => s.heap.size ≤ q) ad1 Ks1 (lay tc ad1 gm1 dz I2) s H1 locs1 → lv_has ls1 8 (lawL ad1 b n) → W p l e room_1 s m #[Value.ref b] below meth c H1 locs1 (cells + mc) (slots + ms) Q (F0 m 1186 ls1 [])) : W p l e room_1 s m #[Value.ref b] below meth c H locs cells slots Q (F0 m 1040 ls []) := by
  obtain ⟨X, -, -, hL25⟩ := id Z
  obtain ⟨hx, hb, hmaxL, hown, hts⟩ := id X.1
  obtain ⟨k, mc, ms, Φ, hw, hrr, hroom, hm1, hm2⟩ := hC
  obtain ⟨hc1, hc2⟩ := hcl
  refine lv_aload_n hx hb dL_law_1040 rfl (lv_at hl 4 rfl) ?_
  refine lv_aload_n hx hb dL_law_1041 rfl (lv_at hl 5 rfl) ?_
  refine lv_iload hx hb dL_law_1042 (lv_at hl 0 rfl) ?_
  refine lv_iconst (v := nI 1) hx hb dL_law_1044 (by decide) ?_
  refine n_iadd hx hb dL_law_1045 ?_
  refine l_sld Z h (j := 5 * n + 1) (by omega) dL_law_1046 ?_
  refine lv_aload_n hx hb dL_law_1047 rfl (lv_at hl 2 rfl) ?_
  refine g_doneI X h (x_runSH (n := 3) X h (hw _) q741 q26 q739 q740 ⟨by decide, by decide, by decide +kernel⟩ rfl (by decide) (Nat.le_of_ble_eq_true rfl) ⟨by show cells + mc ≤ 601024; omega, by show slots + ms ≤ 7293034; omega⟩ hl.1 (Nat.le_of_ble_eq_true rfl) dL_law_1048 rfl) (fun r u H locs hP h => ?_)
  obtain ⟨rfl, hP⟩ := hP
  obtain ⟨ad1, Ks1, st1⟩ := u
  obtain ⟨gm1, I1, hΦ, hL1, hW1, hG1, hk1, hs1⟩ := hP
  have h : Sx D (fun q => s.heap.size ≤ q) ad1 Ks1 (lay tc ad1 gm1 dz I1) s H locs := h.congr hs1
  obtain ⟨lv, b2, I2, hlv, hM, ht, hb2, hI2⟩ := hrr gm1 I1 hΦ ad1 Ks1 hL1
  obtain ⟨hro1, hro2⟩ := hroom gm1 I1 hΦ
  have ea : lawL ad1 b n = lawL ad b n := by
    have e0 : ad1 (0, 0, 0, 0) = ad (0, 0, 0, 0) := hk1 _ (hL (0, 0, 0, 0) ⟨rfl, rfl, rfl⟩) (by decide)
    have e30 : ad1 (30, 0, 0, 0) = ad (30, 0, 0, 0) := hk1 _ (hL (30, 0, 0, 0) ⟨by decide, rfl, rfl, rfl⟩) (by decide)
    have e50 : ad1 (50, 0, 0, 0) = ad (50, 0, 0, 0) := hk1 _ (hL (50, 0, 0, 0) ⟨by decide, rfl, rfl, rfl⟩) (by decide)
    have e51 : ad1 (51, 0, 0, 0) = ad (51, 0, 0, 0) := hk1 _ (hL (51, 0, 0, 0) ⟨by decide, rfl, rfl, rfl⟩) (by decide)
    unfold lawL
    rw [e0, e30, e50, e51]
  rw [← ea] at hl
  clear ea hk1
  refine lv_istore (lv' := (6, .int (nI k)) :: lawL ad1 b n) hx hb dL_law_1051 hl (by decide) rfl (fun ls hl => ?_)
  refine lv_aload_n hx hb dL_law_1053 rfl (lv_at hl 4 rfl) ?_
  refine lv_aload_n hx hb dL_law_1054 rfl (lv_at hl 6 rfl) ?_
  refine lv_iload hx hb dL_law_1055 (lv_at hl 1 rfl) ?_
  refine lv_iconst (v := nI 1) hx hb dL_law_1057 (by decide) ?_
  refine n_iadd hx hb dL_law_1058 ?_
  refine l_sld Z h (j := 5 * n + 1) (by omega) dL_law_1059 ?_
  refine x_doneI X h (x_runV X h (k := (30, 0, 0, 0)) (hM _) F_X7_clashes q999 q1000 q1001 (hL1 (30, 0, 0, 0) ⟨by decide, rfl, rfl, rfl⟩) rfl rfl rfl (by show lv + 1 ≤ 14; omega) (by show 8 + (5 + 11) + 32 * lv ≤ 550; omega) ⟨by show cells + mc + 0 ≤ 601024; omega, by show slots + ms + 0 ≤ 7293034; omega⟩ hl.1 (Nat.le_of_ble_eq_true rfl) dL_law_1060 rfl) (fun H locs h => ?_)
  refine lv_istore (lv' := (7, .int b2) :: (6, .int (nI k)) :: lawL ad1 b n) hx hb dL_law_1063 hl (by decide) rfl (fun ls hl => ?_)
  refine lv_aload_n hx hb dL_law_1065 rfl (lv_at hl 5 rfl) ?_
  refine x_doneI X h (x_runV X h (k := (30, 0, 0, 0)) (m_X7_thrown I2 hL1 _) F_X7_thrown q849 q850 q851 (hL1 (30, 0, 0, 0) ⟨by decide, rfl, rfl, rfl⟩) rfl rfl rfl (by show 0 + 1 ≤ 14; omega) (by show 8 + (1 + 11) + 32 * 0 ≤ 550; omega) ⟨by show cells + mc + 0 + 0 ≤ 601024; omega, by show slots + ms + 0 + 0 ≤ 7293034; omega⟩ hl.1 (Nat.le_of_ble_eq_true rfl) dL_law_1066 rfl) (fun H locs h => ?_)
  rw [ht]
  refine lv_iload hx hb dL_law_1069 (lv_at hl 1 rfl) ?_
  refine lv_icmp_eq (tgt := 1076) hx hb dL_law_1071 (by decide) (fun _ => ?_) (fun q => absurd rfl q)
  refine lv_iload hx hb dL_law_1076 (lv_at hl 1 rfl) ?_
  refine lv_if_ne (tgt := 1093) hx hb dL_law_1078 (by decide) (fun _ => ?_) (fun q => ?_)
  · refine lv_goto (tgt := 1186) hx hb dL_law_1093 (by decide) ?_
    exact kk mc ms ad1 Ks1 gm1 I2 H locs ls hro1 hro2 hL1 hW1 hG1 hI2 h (lv_sub hl [2, 3, 4, 5, 6, 7] rfl)
  · skip
    refine lv_aload_n hx hb dL_law_1081 rfl (lv_at hl 4 rfl) ?_
    refine lv_iconst (v := nI 0) hx hb dL_law_1082 (by decide) ?_
    refine o_lald X h (hL1 (50, 0, 0, 0) ⟨by decide, rfl, rfl, rfl⟩) dL_law_1083 ?_
    refine lv_iload hx hb dL_law_1084 (lv_at hl 0 rfl) ?_
    refine lv_i2l hx hb dL_law_1086 rfl ?_
    refine W.lcmp hx hb dL_law_1087 ?_
    refine lv_if_eq (tgt := 1093) hx hb dL_law_1088 (by decide) (fun _ => ?_) (fun q9 => absurd ((lg_cmp_eq _ _).mpr (by rw [hb2 q])) q9)
    refine lv_goto (tgt := 1186) hx hb dL_law_1093 (by decide) ?_
    exact kk mc ms ad1 Ks1 gm1 I2 H locs ls hro1 hro2 hL1 hW1 hG1 hI2 h (lv_sub hl [2, 3, 4, 5, 6, 7] rfl)
set_option maxHeartbeats 4000000 in
set_option maxRecDepth 100000 in
theorem lc_agreement (Z : LX p s m meth c D tc dz b L xs) (h : Sx D (fun q => s.heap.size ≤ q) ad Ks (lay tc ad gm dz I) s H locs) (hl : lv_has ls 8 (lawL ad b n)) (hi : 5 * n + 5 ≤ L) (hL : LV gm Ks) (hC : CAF l D tc dz ad Ks gm I n yL_agreement cL_agreement 5 [(0, 10, 13, 13)] yX7_agreement cX7_agreement 8 [.int (xs (5 * n + 1)), .int (xs (5 * n + 2))]) (hcl : cells + 3000 ≤ 601024 ∧ slots + 1100000 ≤ 7293034)
    (kk : ∀ (mc ms : Nat) (ad1 : KN → Nat) (Ks1 : List KN) (gm1 : GM) (I2 : Mem) (H1 : Heap) (locs1 : List Loc) (ls1 : Array Slot), 5 * SG gm + mc ≤ 5 * SG gm1 + 1 → 2111 * SG gm + ms ≤ 2111 * SG gm1 + 6 → LV gm1 Ks1 → LW gm1 Ks1 → GM2 gm1 → LInv I2 gm1 (n + 1) → Sx D (fun q => s.heap.size ≤ q) ad1 Ks1 (lay tc ad1 gm1 dz I2) s H1 locs1 → lv_has ls1 8 (lawL ad1 b n) → W p l e room_1 s m #[Value.ref b] below meth c H1 locs1 (cells + mc) (slots + ms) Q (F0 m 1186 ls1 [])) : W p l e room_1 s m #[Value.ref b] below meth c H locs cells slots Q (F0 m 1096 ls []) := by
  obtain ⟨X, -, -, hL25⟩ := id Z
  obtain ⟨hx, hb, hmaxL, hown, hts⟩ := id X.1
  obtain ⟨k, mc, ms, Φ, hw, hrr, hroom, hm1, hm2⟩ := hC
  obtain ⟨hc1, hc2⟩ := hcl
  refine lv_aload_n hx hb dL_law_1096 rfl (lv_at hl 4 rfl) ?_
  refine lv_aload_n hx hb dL_law_1097 rfl (lv_at hl 5 rfl) ?_
  refine lv_iload hx hb dL_law_1098 (lv_at hl 0 rfl) ?_
  refine lv_iconst (v := nI 1) hx hb dL_law_1100 (by decide) ?_
  refine n_iadd hx hb dL_law_1101 ?_
  refine l_sld Z h (j := 5 * n + 1) (by omega) dL_law_1102 ?_
  refine lv_aload_n hx hb dL_law_1103 rfl (lv_at hl 5 rfl) ?_
  refine lv_iload hx hb dL_law_1104 (lv_at hl 0 rfl) ?_
  refine lv_iconst (v := nI 2) hx hb dL_law_1106 (by decide) ?_
  refine n_iadd hx hb dL_law_1107 ?_
  refine l_sld Z h (j := 5 * n + 2) (by omega) dL_law_1108 ?_
  refine lv_aload hx hb dL_law_1109 (lv_at hl 1 rfl) ?_
  refine g_doneI X h (x_runSH (n := 4) X h (hw _) q758 q26 q756 q757 ⟨by decide, by decide, by decide +kernel⟩ rfl (by decide) (Nat.le_of_ble_eq_true rfl) ⟨by show cells + mc ≤ 601024; omega, by show slots + ms ≤ 7293034; omega⟩ hl.1 (Nat.le_of_ble_eq_true rfl) dL_law_1111 rfl) (fun r u H locs hP h => ?_)
  obtain ⟨rfl, hP⟩ := hP
  obtain ⟨ad1, Ks1, st1⟩ := u
  obtain ⟨gm1, I1, hΦ, hL1, hW1, hG1, hk1, hs1⟩ := hP
  have h : Sx D (fun q => s.heap.size ≤ q) ad1 Ks1 (lay tc ad1 gm1 dz I1) s H locs := h.congr hs1
  obtain ⟨lv, b2, I2, hlv, hM, ht, hb2, hI2⟩ := hrr gm1 I1 hΦ ad1 Ks1 hL1
  obtain ⟨hro1, hro2⟩ := hroom gm1 I1 hΦ
  have ea : lawL ad1 b n = lawL ad b n := by
    have e0 : ad1 (0, 0, 0, 0) = ad (0, 0, 0, 0) := hk1 _ (hL (0, 0, 0, 0) ⟨rfl, rfl, rfl⟩) (by decide)
    have e30 : ad1 (30, 0, 0, 0) = ad (30, 0, 0, 0) := hk1 _ (hL (30, 0, 0, 0) ⟨by decide, rfl, rfl, rfl⟩) (by decide)
    have e50 : ad1 (50, 0, 0, 0) = ad (50, 0, 0, 0) := hk1 _ (hL (50, 0, 0, 0) ⟨by decide, rfl, rfl, rfl⟩) (by decide)
    have e51 : ad1 (51, 0, 0, 0) = ad (51, 0, 0, 0) := hk1 _ (hL (51, 0, 0, 0) ⟨by decide, rfl, rfl, rfl⟩) (by decide)
    unfold lawL
    rw [e0, e30, e50, e51]
  rw [← ea] at hl
  clear ea hk1
  refine lv_istore (lv' := (6, .int (nI k)) :: lawL ad1 b n) hx hb dL_law_1114 hl (by decide) rfl (fun ls hl => ?_)
  refine lv_aload_n hx hb dL_law_1116 rfl (lv_at hl 4 rfl) ?_
  refine lv_aload_n hx hb dL_law_1117 rfl (lv_at hl 6 rfl) ?_
  refine lv_iload hx hb dL_law_1118 (lv_at hl 1 rfl) ?_
  refine lv_iconst (v := nI 1) hx hb dL_law_1120 (by decide) ?_
  refine n_iadd hx hb dL_law_1121 ?_
  refine l_sld Z h (j := 5 * n + 1) (by omega) dL_law_1122 ?_
  refine lv_aload_n hx hb dL_law_1123 rfl (lv_at hl 6 rfl) ?_
  refine lv_iload hx hb dL_law_1124 (lv_at hl 1 rfl) ?_
  refine lv_iconst (v := nI 2) hx hb dL_law_1126 (by decide) ?_
  refine n_iadd hx hb dL_law_1127 ?_
  refine l_sld Z h (j := 5 * n + 2) (by omega) dL_law_1128 ?_
  refine x_doneF X h (x_runV X h (k := (30, 0, 0, 0)) (hM _) F_X7_agreement q1003 q1004 q1005 (hL1 (30, 0, 0, 0) ⟨by decide, rfl, rfl, rfl⟩) rfl rfl rfl (by show lv + 1 ≤ 14; omega) (by show 8 + (8 + 11) + 32 * lv ≤ 550; omega) ⟨by show cells + mc + 0 ≤ 601024; omega, by show slots + ms + 0 ≤ 7293034; omega⟩ hl.1 (Nat.le_of_ble_eq_true rfl) dL_law_1129 rfl) (fun H locs h => ?_)
  refine lv_fstore (lv' := (7, .float b2) :: (6, .int (nI k)) :: lawL ad1 b n) hx hb dL_law_1132 hl (by decide) rfl (fun ls hl => ?_)
  refine lv_aload_n hx hb dL_law_1134 rfl (lv_at hl 5 rfl) ?_
  refine x_doneI X h (x_runV X h (k := (30, 0, 0, 0)) (m_X7_thrown I2 hL1 _) F_X7_thrown q849 q850 q851 (hL1 (30, 0, 0, 0) ⟨by decide, rfl, rfl, rfl⟩) rfl rfl rfl (by show 0 + 1 ≤ 14; omega) (by show 8 + (1 + 11) + 32 * 0 ≤ 550; omega) ⟨by show cells + mc + 0 + 0 ≤ 601024; omega, by show slots + ms + 0 + 0 ≤ 7293034; omega⟩ hl.1 (Nat.le_of_ble_eq_true rfl) dL_law_1135 rfl) (fun H locs h => ?_)
  rw [ht]
  refine lv_iload hx hb dL_law_1138 (lv_at hl 1 rfl) ?_
  refine lv_icmp_eq (tgt := 1145) hx hb dL_law_1140 (by decide) (fun _ => ?_) (fun q => absurd rfl q)
  refine lv_iload hx hb dL_law_1145 (lv_at hl 1 rfl) ?_
  refine lv_if_ne (tgt := 1183) hx hb dL_law_1147 (by decide) (fun _ => ?_) (fun q => ?_)
  · refine lv_goto (tgt := 1186) hx hb dL_law_1183 (by decide) ?_
    exact kk mc ms ad1 Ks1 gm1 I2 H locs ls hro1 hro2 hL1 hW1 hG1 hI2 h (lv_sub hl [2, 3, 4, 5, 6, 7] rfl)
  · skip
    refine lv_aload hx hb dL_law_1150 (lv_at hl 3 rfl) ?_
    refine lv_iconst (v := nI 0) hx hb dL_law_1152 (by decide) ?_
    obtain ⟨hn1, hn2, hn3⟩ := hb2 q
    refine o_dald X h (hL1 (51, 0, 0, 0) ⟨by decide, rfl, rfl, rfl⟩) dL_law_1153 ?_
    refine lv_fload hx hb dL_law_1154 (lv_at hl 0 rfl) ?_
    refine lv_f2d hx hb dL_law_1156 hn1 ?_
    refine lv_dcmp hx hb dL_law_1157 ?_
    refine lv_if_eq (tgt := 1183) hx hb dL_law_1158 (by decide) (fun _ => ?_) (fun q9 => absurd (by rw [hn3, hn2]; rfl) q9)
    refine lv_goto (tgt := 1186) hx hb dL_law_1183 (by decide) ?_
    exact kk mc ms ad1 Ks1 gm1 I2 H locs ls hro1 hro2 hL1 hW1 hG1 hI2 h (lv_sub hl [2, 3, 4, 5, 6, 7] rfl)
end LAWCASES
