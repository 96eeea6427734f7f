theorem ent_g0 {Z : Mem} {d n z : Nat} {a b c x y : Int32} : mkeM (jwM (LL (mEntM Z d n)) z a b c x y) 0 d n (45, 0, 0, 0) 0 = nI (n + 1) := by
  unfold mkeM
  rw [sset_ne _ _ (nek (by decide)), sset_ne _ _ (nek (by decide)), sset_ne _ _ (nek (by decide)), jw_see (kz rfl) (kz rfl) (kz rfl) (kz rfl) (kz rfl) (kz rfl), gc_0]
  unfold mEntM
  rw [sset_eq, ud_eq]
theorem mt0_in {Z : Mem} {d e f k : Nat} (hk : k < 6) : mt0 Z d e f (24 * (10 * d + e) + 6 * f + k) = 0 := by
  unfold mt0
  rw [rf_in ⟨by omega, by omega⟩]
theorem tel_v35 {Z : Mem} {d e f a x : Nat} (ha : Z (31, 0, 0, 0) d = nI a) (hx : x < 1000) : ∀ k, k < 6 → one6 d (nI (a + 1)) k = mtlM Z d e f (nI x) (35, 0, 0, 0) (24 * (10 * d + e) + 6 * f + k) := fun k hk => by
  rw [mtl_35, if_neg (fun q => by rw [Int32.lt_iff_toInt_lt, i_nI (by omega), i_zero] at q; omega), ha, nI_add]
  unfold one6
  by_cases w : k = d
  · rw [if_pos w, w, ud_eq]
  · rw [if_neg w, ud_ne _ _ (by omega)]
    exact (mt0_in hk).symm
section SEGS
variable {p : Program} {l : Launch} {e : Env} {R : Room} {s : State} {mth : MethodId} {args : Array Value} {below : List Frame} {meth : Method} {c : Code} {H : Heap} {locs : List Loc} {cells slots : Nat} {Q : State → Prop}
variable {D : va_G} {tc : TC} {dz : Nat} {A : Nat → Prop} {ad : KN → Nat} {Ks : List KN} {gm : GM} {ls : Array Slot}
set_option maxHeartbeats 4000000 in
set_option maxRecDepth 100000 in
theorem da_ent (X : Cx p s mth args meth c cL_isDone yL_isDone.cls 26 D tc dz A) (hR1 : 14 ≤ R.frames) (hR2 : 462 ≤ R.locals) (hcR : cells + 0 ≤ R.cells) (hsR : slots + 0 ≤ R.slots) (hL : LV gm Ks) (hst : l.stackTraces = false) (hW : LW gm Ks) (hG2 : GM2 gm) (Z : Mem) (V : Nat → BS) (acts : Nat → Act) (z n m t : Nat) (ac mcs : Nat → Nat) (cn : Nat) (hS : LWS Z gm V acts z n m t ac mcs cn) (hcn : cn < 58) (b at9 : Nat) (what one two three : Nat) (h40 : what < 40) (h60 : one < 6000) (h70 : two < 7000) (h80 : three < 8000) (dv en : Nat) (hdv : dv ≤ 6) (hen : en ≤ 2) (kn : Bool) (hw3 : what < 3) (hn : n < 2) (hd : dv < 6) (h : Sx D A ad Ks (lay tc ad gm dz (LL Z)) s H locs) (hl : lv_has ls 26 [(18, .int (bI kn)), (17, .int (nI en)), (16, .int (nI dv)), (15, .int (nI three)), (14, .int (nI two)), (13, .int (nI one)), (12, .int (nI what)), (0, .ref (ad (0, 0, 0, 0))), (1, .ref b), (2, .int (nI at9)), (3, .ref (ad (35, 0, 0, 0))), (4, .ref (ad (37, 0, 0, 0))), (5, .ref (ad (39, 0, 0, 0))), (6, .ref (ad (43, 0, 0, 0))), (7, .ref (ad (44, 0, 0, 0))), (8, .ref (ad (41, 0, 0, 0))), (9, .ref (ad (42, 0, 0, 0))), (10, .ref (ad (40, 0, 0, 0))), (11, .ref (ad (45, 0, 0, 0)))])
    (kk : ∀ (ad1 : KN → Nat) (Ks1 : List KN) (gm1 : GM) (Z1 : Mem) (H1 : Heap) (locs1 : List Loc) (ls1 : Array Slot), NY (cn + 1) gm1 Ks1 Z1 → AEq ad ad1 → Sx D A ad1 Ks1 (lay tc ad1 gm1 dz (LL Z1)) s H1 locs1 → W p l e R s mth args below meth c H1 locs1 cells slots Q (F0 mth 222 ls1 [.int (bI true)])) : W p l e R s mth args below meth c H locs cells slots Q (F0 mth 130 ls []) := by
  have hok := hS.2.1
  have hn2 := hS.2.2.1
  have hm10 := hS.2.2.2
  have hN := nr_of hS.1.1
  have ht9 : t ≤ 2000 := by have := hS.1.2.2.2.2.2.2.2.2.2.1; omega
  have hBK := lb_bk (G := Z) hS.1 (fun _ _ => rfl)
  have hR9 := lb_rel0 (G := Z) hS.1.1 (fun _ _ => rfl)
  have hz6 : z < 512 := by have := hS.1.2.2.2.2.2.2.2.1; omega
  have hG : ∀ k : KN, k.1 < 30 → mEntM Z dv n k = Z k := fun k hk => mEnt_lo hk
  obtain ⟨hT9, hRb⟩ := st_entry hS hd hn
  obtain ⟨hx, hb, hmaxL, hown, hts⟩ := id X.1
  refine lv_iload hx hb dL_isDone_130 (lv_at hl 6 rfl) ?_
  refine lv_iconst (v := nI 3) hx hb dL_isDone_132 (by decide) ?_
  refine n_icmp_ge (tgt := 223) hx hb (by omega) (by omega) dL_isDone_133 (by decide) (fun c => absurd hw3 (by omega)) (fun _ => ?_)
  refine lv_aload hx hb dL_isDone_136 (lv_at hl 18 rfl) ?_
  refine lv_iconst (v := nI 0) hx hb dL_isDone_138 (by decide) ?_
  refine y_ald X h (fun _ => rfl) (by decide) (hL (45, 0, 0, 0) ⟨by decide, rfl, rfl, rfl⟩) (by omega) (v := nI n) (gc_0.trans hN.1) dL_isDone_139 ?_
  refine lv_iconst (v := nI 2) hx hb dL_isDone_140 (by decide) ?_
  refine n_icmp_ge (tgt := 223) hx hb (by omega) (by omega) dL_isDone_141 (by decide) (fun c => absurd hn (by omega)) (fun _ => ?_)
  refine lv_iload hx hb dL_isDone_144 (lv_at hl 2 rfl) ?_
  refine lv_bipush (v := nI 6) hx hb dL_isDone_146 (by decide) ?_
  refine n_icmp_ge (tgt := 185) hx hb (by omega) (by omega) dL_isDone_148 (by decide) (fun c => absurd hd (by omega)) (fun _ => ?_)
  refine lv_aload hx hb dL_isDone_151 (lv_at hl 14 rfl) ?_
  refine lv_iconst (v := nI 4) hx hb dL_isDone_153 (by decide) ?_
  refine lv_aload hx hb dL_isDone_154 (lv_at hl 18 rfl) ?_
  refine lv_iconst (v := nI 0) hx hb dL_isDone_156 (by decide) ?_
  refine y_ald X h (fun _ => rfl) (by decide) (hL (45, 0, 0, 0) ⟨by decide, rfl, rfl, rfl⟩) (by omega) (v := nI n) (gc_0.trans hN.1) dL_isDone_157 ?_
  refine n_imul hx hb dL_isDone_158 ?_
  refine lv_iload hx hb dL_isDone_159 (lv_at hl 2 rfl) ?_
  refine lv_iconst (v := nI 2) hx hb dL_isDone_161 (by decide) ?_
  refine n_idiv hx hb (by omega) (by omega) (by omega) dL_isDone_162 ?_
  refine y_ast X h (fun _ => rfl) (by decide) (hL (44, 0, 0, 0) ⟨by decide, rfl, rfl, rfl⟩) (by omega) dL_isDone_163 (fun H locs h => ?_)
  refine lv_aload hx hb dL_isDone_164 (lv_at hl 13 rfl) ?_
  refine lv_iconst (v := nI 2) hx hb dL_isDone_166 (by decide) ?_
  refine lv_iload hx hb dL_isDone_167 (lv_at hl 2 rfl) ?_
  refine n_imul hx hb dL_isDone_169 ?_
  refine lv_aload hx hb dL_isDone_170 (lv_at hl 18 rfl) ?_
  refine lv_iconst (v := nI 0) hx hb dL_isDone_172 (by decide) ?_
  refine y_ald X h (fun _ => rfl) (by decide) (hL (45, 0, 0, 0) ⟨by decide, rfl, rfl, rfl⟩) (by omega) (v := nI n) ((congrFun (sset_ne _ _ (nek (by decide))) 0).trans (gc_0.trans hN.1)) dL_isDone_173 ?_
  refine n_iadd hx hb dL_isDone_174 ?_
  refine lv_iconst (v := nI 1) hx hb dL_isDone_175 (by decide) ?_
  refine y_ast X h (fun _ => rfl) (by decide) (hL (43, 0, 0, 0) ⟨by decide, rfl, rfl, rfl⟩) (by omega) dL_isDone_176 (fun H locs h => ?_)
  refine lv_aload hx hb dL_isDone_177 (lv_at hl 18 rfl) ?_
  refine lv_iconst (v := nI 0) hx hb dL_isDone_179 (by decide) ?_
  refine lv_dup2_11 hx hb dL_isDone_180 rfl rfl ?_
  refine y_ald X h (fun _ => rfl) (by decide) (hL (45, 0, 0, 0) ⟨by decide, rfl, rfl, rfl⟩) (by omega) (v := nI n) ((congrFun ((sset_ne _ _ (nek (by decide))).trans (sset_ne _ _ (nek (by decide)))) 0).trans (gc_0.trans hN.1)) dL_isDone_181 ?_
  refine lv_iconst (v := nI 1) hx hb dL_isDone_182 (by decide) ?_
  refine n_iadd hx hb dL_isDone_183 ?_
  refine y_ast X h (fun _ => rfl) (by decide) (hL (45, 0, 0, 0) ⟨by decide, rfl, rfl, rfl⟩) (by omega) dL_isDone_184 (fun H locs h => ?_)
  have h := h.law hW (ent_LAe hd hn (lws_new hS hd))
  refine lv_aload_n hx hb dL_isDone_185 rfl (lv_at hl 7 rfl) ?_
  refine lv_iconst (v := nI 0) hx hb dL_isDone_186 (by decide) ?_
  refine lv_iload hx hb dL_isDone_187 (lv_at hl 2 rfl) ?_
  refine lv_iconst (v := nI 0) hx hb dL_isDone_189 (by decide) ?_
  refine lv_iconst (v := nI 0) hx hb dL_isDone_190 (by decide) ?_
  refine lv_iconst (v := nI 0) hx hb dL_isDone_191 (by decide) ?_
  refine x_doneI X h (x_runSH (n := 6) X h (w_does_entry_ok (LL (mEntM Z dv n)) hL (lv := 9) (by decide) (nI dv) (nI 0) (nI 0) (nI 0) (m_X6_entry (LL (mEntM Z dv n)) hL hG2.ok n mcs (lb_bk hS.1 hG) z (lb_z hS.1 hG) hz6 dv hd (by omega)) _) q378 q5 q376 q377 ⟨by decide, by decide, by decide +kernel⟩ rfl (Nat.le_trans (by decide) hR1) (Nat.le_trans (by decide) hR2) ⟨by omega, by omega⟩ hl.1 (Nat.le_of_ble_eq_true rfl) dL_isDone_192 rfl) (fun H locs h => ?_)
  refine lv_iload hx hb dL_isDone_195 (lv_at hl 2 rfl) ?_
  refine lv_bipush (v := nI 6) hx hb dL_isDone_197 (by decide) ?_
  refine n_icmp_ge (tgt := 211) hx hb (by omega) (by omega) dL_isDone_199 (by decide) (fun c => absurd hd (by omega)) (fun _ => ?_)
  refine lv_aload hx hb dL_isDone_202 (lv_at hl 18 rfl) ?_
  refine lv_iconst (v := nI 0) hx hb dL_isDone_204 (by decide) ?_
  refine y_ald X h (fun _ => rfl) (by decide) (hL (45, 0, 0, 0) ⟨by decide, rfl, rfl, rfl⟩) (by omega) (v := nI (n + 1)) ent_g0 dL_isDone_205 ?_
  refine lv_iconst (v := nI 1) hx hb dL_isDone_206 (by decide) ?_
  refine n_isub hx hb (by omega) dL_isDone_207 ?_
  refine lv_goto (tgt := 214) hx hb dL_isDone_208 (by decide) ?_
  refine n_icmp_ne (tgt := 221) hx hb (by omega) (by omega) dL_isDone_214 (by decide) (fun c => absurd (by omega) c) (fun _ => ?_)
  refine lv_iconst (v := nI 1) hx hb dL_isDone_217 (by decide) ?_
  refine lv_goto (tgt := 222) hx hb dL_isDone_218 (by decide) ?_
  rw [hRb] at h
  exact kk ad Ks gm _ H locs ls ⟨hL, hW, hG2, hT9⟩ (AEq.refl ad) h

set_option maxHeartbeats 4000000 in
set_option maxRecDepth 100000 in
theorem da_tel1 (X : Cx p s mth args meth c cL_isDone yL_isDone.cls 26 D tc dz A) (hR1 : 14 ≤ R.frames) (hR2 : 462 ≤ R.locals) (hcR : cells + 0 ≤ R.cells) (hsR : slots + 0 ≤ R.slots) (hL : LV gm Ks) (hst : l.stackTraces = false) (hW : LW gm Ks) (hG2 : GM2 gm) (Z : Mem) (V : Nat → BS) (acts : Nat → Act) (z n m t : Nat) (ac mcs : Nat → Nat) (cn : Nat) (hS : LWS Z gm V acts z n m t ac mcs cn) (hcn : cn < 58) (b at9 : Nat) (what one two three : Nat) (h40 : what < 40) (h60 : one < 6000) (h70 : two < 7000) (h80 : three < 8000) (dv en : Nat) (hdv : dv ≤ 6) (hen : en ≤ 2) (fl : Nat) (hf : fl < 4) (hmay : mayB Z dv en fl = true) (hd : dv < 6) (hk : en < n) (h34 : Z (34, 0, 0, 0) (10 * dv + en) = nI 1) (h36 : three % 6 = 0) (h : Sx D A ad Ks (lay tc ad gm dz (LL Z)) s H locs) (hl : lv_has ls 26 [(20, .int (bI true)), (19, .int (nI fl)), (18, .int (bI true)), (17, .int (nI en)), (16, .int (nI dv)), (15, .int (nI three)), (14, .int (nI two)), (13, .int (nI one)), (12, .int (nI what)), (0, .ref (ad (0, 0, 0, 0))), (1, .ref b), (2, .int (nI at9)), (3, .ref (ad (35, 0, 0, 0))), (4, .ref (ad (37, 0, 0, 0))), (5, .ref (ad (39, 0, 0, 0))), (6, .ref (ad (43, 0, 0, 0))), (7, .ref (ad (44, 0, 0, 0))), (8, .ref (ad (41, 0, 0, 0))), (9, .ref (ad (42, 0, 0, 0))), (10, .ref (ad (40, 0, 0, 0))), (11, .ref (ad (45, 0, 0, 0)))])
    (kk : ∀ (ad1 : KN → Nat) (Ks1 : List KN) (gm1 : GM) (Z1 : Mem) (H1 : Heap) (locs1 : List Loc) (ls1 : Array Slot), NY (cn + 1) gm1 Ks1 Z1 → AEq ad ad1 → Sx D A ad1 Ks1 (lay tc ad1 gm1 dz (LL Z1)) s H1 locs1 → W p l e R s mth args below meth c H1 locs1 cells slots Q (F0 mth 514 ls1 [.int (bI true)])) : W p l e R s mth args below meth c H locs cells slots Q (F0 mth 266 ls []) := by
  have hok := hS.2.1
  have hn2 := hS.2.2.1
  have hm10 := hS.2.2.2
  have hN := nr_of hS.1.1
  have ht9 : t ≤ 2000 := by have := hS.1.2.2.2.2.2.2.2.2.2.1; omega
  have hBK := lb_bk (G := Z) hS.1 (fun _ _ => rfl)
  have hR9 := lb_rel0 (G := Z) hS.1.1 (fun _ _ => rfl)
  have hac9 := hS.1.2.2.2.2.2.2.2.2.2.2.1 dv
  have hz6 : z < 512 := by have := hS.1.2.2.2.2.2.2.2.1; omega
  have hC := hR9.cp en dv (by omega) hd
  have hkn := ck_yes hC h34
  have hG : ∀ k : KN, k.1 < 30 → (mtlM Z dv en fl (-1)) k = Z k := fun k hk => mtl_lo hk
  have hct9 : ctv (rw6 (Z (35, 0, 0, 0)) (24 * (10 * dv + en) + 6 * fl)) ≤ 6 := cntN_le _ _
  have hin : ∀ w : Int32, (w = -1 ∨ ∃ x : Nat, x < 1000 ∧ w = nI x) → inR w (-1) (nI 999) = true := tell_in
  have hRG := lb_rel0 (G := (mtlM Z dv en fl (-1))) hS.1.1 hG
  obtain ⟨hT9, hRb⟩ := st_tell hS hcn hd hk hf (v := (-1)) (by first | exact Or.inl rfl | exact Or.inr rfl)
  have hsn : (Z (37, 0, 0, 0) (24 * (10 * dv + en) + 6 * fl + dv)).toInt ≤ ac dv := by have q := lws_sn hS (by omega) hd (show en < 10 by omega) (c := 6 * fl + dv) (by omega); rw [show (6 * fl + dv) % 6 = dv by omega] at q; unfold cl at q; rw [← Nat.add_assoc] at q; exact q
  obtain ⟨hx, hb, hmaxL, hown, hts⟩ := id X.1
  refine lv_iload hx hb dL_isDone_266 (lv_at hl 2 rfl) ?_
  refine b_if_eq (tgt := 300) hx hb dL_isDone_268 (by decide) (fun c => (Bool.noConfusion c)) (fun _ => ?_)
  refine lv_iload hx hb dL_isDone_271 (lv_at hl 1 rfl) ?_
  refine lv_iconst (v := nI 4) hx hb dL_isDone_273 (by decide) ?_
  refine n_icmp_ge (tgt := 300) hx hb (by omega) (by omega) dL_isDone_274 (by decide) (fun c => absurd hf (by omega)) (fun _ => ?_)
  refine lv_iload hx hb dL_isDone_277 (lv_at hl 0 rfl) ?_
  refine b_if_eq (tgt := 300) hx hb dL_isDone_279 (by decide) (fun c => (Bool.noConfusion c)) (fun _ => ?_)
  refine lv_aload hx hb dL_isDone_282 (lv_at hl 16 rfl) ?_
  refine lv_iload hx hb dL_isDone_284 (lv_at hl 4 rfl) ?_
  refine lv_iload hx hb dL_isDone_286 (lv_at hl 3 rfl) ?_
  refine lv_iload hx hb dL_isDone_288 (lv_at hl 1 rfl) ?_
  refine x_doneI X h (x_runS X h (m_L_may Z hL dv en hd (by omega) fl hf _) F_L_may q766 q767 rfl (Nat.le_trans (by decide) hR1) (Nat.le_trans (by decide) hR2) ⟨by omega, by omega⟩ hl.1 (Nat.le_of_ble_eq_true rfl) dL_isDone_290 rfl) (fun H locs h => ?_)
  refine b_if_eq (tgt := 300) hx hb dL_isDone_293 (by decide) (fun c => absurd (hmay.symm.trans c) (by decide)) (fun _ => ?_)
  refine lv_iconst (v := nI 1) hx hb dL_isDone_296 (by decide) ?_
  refine lv_goto (tgt := 301) hx hb dL_isDone_297 (by decide) ?_
  refine lv_istore (lv' := [(21, .int (nI 1)), (20, .int (bI true)), (19, .int (nI fl)), (18, .int (bI true)), (17, .int (nI en)), (16, .int (nI dv)), (15, .int (nI three)), (14, .int (nI two)), (13, .int (nI one)), (12, .int (nI what)), (0, .ref (ad (0, 0, 0, 0))), (1, .ref b), (2, .int (nI at9)), (3, .ref (ad (35, 0, 0, 0))), (4, .ref (ad (37, 0, 0, 0))), (5, .ref (ad (39, 0, 0, 0))), (6, .ref (ad (43, 0, 0, 0))), (7, .ref (ad (44, 0, 0, 0))), (8, .ref (ad (41, 0, 0, 0))), (9, .ref (ad (42, 0, 0, 0))), (10, .ref (ad (40, 0, 0, 0))), (11, .ref (ad (45, 0, 0, 0)))]) hx hb dL_isDone_301 hl (by decide) rfl (fun ls hl => ?_)
  refine lv_iload hx hb dL_isDone_303 (lv_at hl 5 rfl) ?_
  refine lv_bipush (v := nI 6) hx hb dL_isDone_305 (by decide) ?_
  refine n_icmp_ge (tgt := 322) hx hb (by omega) (by omega) dL_isDone_307 (by decide) (fun c => absurd hd (by omega)) (fun _ => ?_)
  refine lv_aload hx hb dL_isDone_310 (lv_at hl 21 rfl) ?_
  refine lv_iconst (v := nI 3) hx hb dL_isDone_312 (by decide) ?_
  refine lv_iload hx hb dL_isDone_313 (lv_at hl 5 rfl) ?_
  refine n_iadd hx hb dL_isDone_315 ?_
  refine y_ald X h (fun _ => rfl) (by decide) (hL (45, 0, 0, 0) ⟨by decide, rfl, rfl, rfl⟩) (by omega) (v := nI (ac dv)) (gc_3.trans (hS.1.1.gl.aJ dv (by omega))) dL_isDone_316 ?_
  refine lv_iconst (v := nI 1) hx hb dL_isDone_317 (by decide) ?_
  refine n_iadd hx hb dL_isDone_318 ?_
  refine lv_goto (tgt := 323) hx hb dL_isDone_319 (by decide) ?_
  refine lv_istore (lv' := [(22, .int (nI ((ac dv) + 1))), (21, .int (nI 1)), (20, .int (bI true)), (19, .int (nI fl)), (18, .int (bI true)), (17, .int (nI en)), (16, .int (nI dv)), (15, .int (nI three)), (14, .int (nI two)), (13, .int (nI one)), (12, .int (nI what)), (0, .ref (ad (0, 0, 0, 0))), (1, .ref b), (2, .int (nI at9)), (3, .ref (ad (35, 0, 0, 0))), (4, .ref (ad (37, 0, 0, 0))), (5, .ref (ad (39, 0, 0, 0))), (6, .ref (ad (43, 0, 0, 0))), (7, .ref (ad (44, 0, 0, 0))), (8, .ref (ad (41, 0, 0, 0))), (9, .ref (ad (42, 0, 0, 0))), (10, .ref (ad (40, 0, 0, 0))), (11, .ref (ad (45, 0, 0, 0)))]) hx hb dL_isDone_323 hl (by decide) rfl (fun ls hl => ?_)
  refine lv_iload hx hb dL_isDone_325 (lv_at hl 2 rfl) ?_
  refine b_if_ne (tgt := 336) hx hb dL_isDone_327 (by decide) (fun _ => ?_) (fun c => (Bool.noConfusion c))
  refine lv_iload hx hb dL_isDone_336 (lv_at hl 7 rfl) ?_
  refine lv_bipush (v := nI 6) hx hb dL_isDone_338 (by decide) ?_
  refine n_irem hx hb (by omega) (by omega) (by omega) dL_isDone_340 ?_
  refine n_if_ne (tgt := 348) hx hb (by omega) dL_isDone_341 (by decide) (fun c => absurd h36 (by omega)) (fun _ => ?_)
  refine lv_iconst (v := (-1)) hx hb dL_isDone_344 (by decide) ?_
  refine lv_goto (tgt := 366) hx hb dL_isDone_345 (by decide) ?_
  refine lv_istore (lv' := [(23, .int (-1)), (22, .int (nI ((ac dv) + 1))), (21, .int (nI 1)), (20, .int (bI true)), (19, .int (nI fl)), (18, .int (bI true)), (17, .int (nI en)), (16, .int (nI dv)), (15, .int (nI three)), (14, .int (nI two)), (13, .int (nI one)), (12, .int (nI what)), (0, .ref (ad (0, 0, 0, 0))), (1, .ref b), (2, .int (nI at9)), (3, .ref (ad (35, 0, 0, 0))), (4, .ref (ad (37, 0, 0, 0))), (5, .ref (ad (39, 0, 0, 0))), (6, .ref (ad (43, 0, 0, 0))), (7, .ref (ad (44, 0, 0, 0))), (8, .ref (ad (41, 0, 0, 0))), (9, .ref (ad (42, 0, 0, 0))), (10, .ref (ad (40, 0, 0, 0))), (11, .ref (ad (45, 0, 0, 0)))]) hx hb dL_isDone_366 hl (by decide) rfl (fun ls hl => ?_)
  refine lv_iload hx hb dL_isDone_368 (lv_at hl 5 rfl) ?_
  refine b_if_eq (tgt := 379) hx hb dL_isDone_370 (by decide) (fun c => (Bool.noConfusion c)) (fun _ => ?_)
  refine lv_iload hx hb dL_isDone_373 (lv_at hl 4 rfl) ?_
  refine lv_iconst (v := nI 4) hx hb dL_isDone_375 (by decide) ?_
  refine n_icmp_ne (tgt := 385) hx hb (by omega) (by omega) dL_isDone_376 (by decide) (fun _ => ?_) (fun c => absurd hf (by omega))
  refine lv_iload hx hb dL_isDone_385 (lv_at hl 3 rfl) ?_
  refine b_if_ne (tgt := 396) hx hb dL_isDone_387 (by decide) (fun _ => ?_) (fun c => (Bool.noConfusion c))
  refine lv_iload hx hb dL_isDone_396 (lv_at hl 2 rfl) ?_
  refine lv_if_eq (tgt := 418) hx hb dL_isDone_398 (by decide) (fun c => absurd c (by decide)) (fun _ => ?_)
  refine lv_aload_n hx hb dL_isDone_401 rfl (lv_at hl 15 rfl) ?_
  refine lv_iload hx hb dL_isDone_402 (lv_at hl 7 rfl) ?_
  refine lv_iload hx hb dL_isDone_404 (lv_at hl 6 rfl) ?_
  refine lv_iload hx hb dL_isDone_406 (lv_at hl 4 rfl) ?_
  refine x_doneI X h (x_runS X h (m_L_at (LL Z) dv en fl _) F_L_at q744 q745 rfl (Nat.le_trans (by decide) hR1) (Nat.le_trans (by decide) hR2) ⟨by omega, by omega⟩ hl.1 (Nat.le_of_ble_eq_true rfl) dL_isDone_408 rfl) (fun H locs h => ?_)
  refine z_lald X h pkB (fun _ => rfl) (by decide) (hL (35, 0, 0, 0) ⟨by decide, rfl, rfl, rfl⟩) (by omega) (v := pk (rw6 (Z (35, 0, 0, 0)) (24 * (10 * dv + en) + 6 * fl))) ((congrFun (congrArg pkB (LL_see (by decide))) _).trans (pkB_at (by omega) (by omega))) dL_isDone_411 ?_
  refine x_doneI X h (x_runS X h (m_L_count (LL Z) (rw6 (Z (35, 0, 0, 0)) (24 * (10 * dv + en) + 6 * fl)) (fun _ _ => hok.1.1 _) _) F_L_count q757 q758 rfl (Nat.le_trans (by decide) hR1) (Nat.le_trans (by decide) hR2) ⟨by omega, by omega⟩ hl.1 (Nat.le_of_ble_eq_true rfl) dL_isDone_412 rfl) (fun H locs h => ?_)
  refine lv_goto (tgt := 420) hx hb dL_isDone_415 (by decide) ?_
  refine lv_istore (lv' := [(24, .int (nI (ctv (rw6 (Z (35, 0, 0, 0)) (24 * (10 * dv + en) + 6 * fl))))), (23, .int (-1)), (22, .int (nI ((ac dv) + 1))), (21, .int (nI 1)), (20, .int (bI true)), (19, .int (nI fl)), (18, .int (bI true)), (17, .int (nI en)), (16, .int (nI dv)), (15, .int (nI three)), (14, .int (nI two)), (13, .int (nI one)), (12, .int (nI what)), (0, .ref (ad (0, 0, 0, 0))), (1, .ref b), (2, .int (nI at9)), (3, .ref (ad (35, 0, 0, 0))), (4, .ref (ad (37, 0, 0, 0))), (5, .ref (ad (39, 0, 0, 0))), (6, .ref (ad (43, 0, 0, 0))), (7, .ref (ad (44, 0, 0, 0))), (8, .ref (ad (41, 0, 0, 0))), (9, .ref (ad (42, 0, 0, 0))), (10, .ref (ad (40, 0, 0, 0))), (11, .ref (ad (45, 0, 0, 0)))]) hx hb dL_isDone_420 hl (by decide) rfl (fun ls hl => ?_)
  refine lv_iload hx hb dL_isDone_422 (lv_at hl 3 rfl) ?_
  refine lv_if_eq (tgt := 491) hx hb dL_isDone_424 (by decide) (fun c => absurd c (by decide)) (fun _ => ?_)
  refine lv_iload hx hb dL_isDone_427 (lv_at hl 8 rfl) ?_
  refine lv_iload hx hb dL_isDone_429 (lv_at hl 7 rfl) ?_
  refine lv_iload hx hb dL_isDone_431 (lv_at hl 5 rfl) ?_
  refine x_doneI X h (x_runS X h (m_L_at (LL Z) dv en fl _) F_L_at q744 q745 rfl (Nat.le_trans (by decide) hR1) (Nat.le_trans (by decide) hR2) ⟨by omega, by omega⟩ hl.1 (Nat.le_of_ble_eq_true rfl) dL_isDone_433 rfl) (fun H locs h => ?_)
  refine lv_istore (lv' := [(25, .int (nI (8 * dv + 4 * en + fl))), (24, .int (nI (ctv (rw6 (Z (35, 0, 0, 0)) (24 * (10 * dv + en) + 6 * fl))))), (23, .int (-1)), (22, .int (nI ((ac dv) + 1))), (21, .int (nI 1)), (20, .int (bI true)), (19, .int (nI fl)), (18, .int (bI true)), (17, .int (nI en)), (16, .int (nI dv)), (15, .int (nI three)), (14, .int (nI two)), (13, .int (nI one)), (12, .int (nI what)), (0, .ref (ad (0, 0, 0, 0))), (1, .ref b), (2, .int (nI at9)), (3, .ref (ad (35, 0, 0, 0))), (4, .ref (ad (37, 0, 0, 0))), (5, .ref (ad (39, 0, 0, 0))), (6, .ref (ad (43, 0, 0, 0))), (7, .ref (ad (44, 0, 0, 0))), (8, .ref (ad (41, 0, 0, 0))), (9, .ref (ad (42, 0, 0, 0))), (10, .ref (ad (40, 0, 0, 0))), (11, .ref (ad (45, 0, 0, 0)))]) hx hb dL_isDone_436 hl (by decide) rfl (fun ls hl => ?_)
  refine lv_aload hx hb dL_isDone_438 (lv_at hl 25 rfl) ?_
  refine lv_iconst (v := nI 3) hx hb dL_isDone_440 (by decide) ?_
  refine lv_iload hx hb dL_isDone_441 (lv_at hl 9 rfl) ?_
  refine n_iadd hx hb dL_isDone_443 ?_
  refine lv_iload hx hb dL_isDone_444 (lv_at hl 3 rfl) ?_
  refine y_ast X h (fun _ => rfl) (by decide) (hL (45, 0, 0, 0) ⟨by decide, rfl, rfl, rfl⟩) (by omega) dL_isDone_446 (fun H locs h => ?_)
  refine lv_aload_n hx hb dL_isDone_447 rfl (lv_at hl 17 rfl) ?_
  refine lv_iload hx hb dL_isDone_448 (lv_at hl 0 rfl) ?_
  refine lv_iload hx hb dL_isDone_450 (lv_at hl 2 rfl) ?_
  refine lv_if_ge (tgt := 459) hx hb dL_isDone_452 (by decide) (fun c => absurd c (by decide)) (fun _ => ?_)
  refine lv_lconst (v := pk z0) hx hb dL_isDone_455 lp_zero.symm ?_
  refine lv_goto (tgt := 468) hx hb dL_isDone_456 (by decide) ?_
  refine z_last X h pkB (fun _ => rfl) (by decide) (hL (35, 0, 0, 0) ⟨by decide, rfl, rfl, rfl⟩) (by omega) (st6 ((sset (LL Z) (45, 0, 0, 0) (upd ((LL Z) (45, 0, 0, 0)) (3 + dv) (nI ((ac dv) + 1)))) (35, 0, 0, 0)) (24 * (10 * dv + en) + 6 * fl) z0) (lastB (by omega) (by omega)) dL_isDone_468 (fun H locs h => ?_)
  refine lv_aload hx hb dL_isDone_469 (lv_at hl 18 rfl) ?_
  refine lv_iload hx hb dL_isDone_471 (lv_at hl 0 rfl) ?_
  refine lv_aload hx hb dL_isDone_473 (lv_at hl 18 rfl) ?_
  refine lv_iload hx hb dL_isDone_475 (lv_at hl 0 rfl) ?_
  refine z_lald X h pkB (fun _ => rfl) (by decide) (hL (37, 0, 0, 0) ⟨by decide, rfl, rfl, rfl⟩) (by omega) (v := pk (rw6 (Z (37, 0, 0, 0)) (24 * (10 * dv + en) + 6 * fl))) ((congrFun (congrArg pkB ((sset_ne _ _ (nek (by decide))).trans ((sset_ne _ _ (nek (by decide))).trans (LL_see (by decide))))) _).trans (pkB_at (by omega) (by omega))) dL_isDone_477 ?_
  refine lv_iload hx hb dL_isDone_478 (lv_at hl 3 rfl) ?_
  refine lv_i2l (v := ((nI ((ac dv) + 1))).toInt64) hx hb dL_isDone_480 rfl ?_
  refine lv_bipush (v := nI 6) hx hb dL_isDone_481 (by decide) ?_
  refine lv_iload hx hb dL_isDone_483 (lv_at hl 9 rfl) ?_
  refine n_imul hx hb dL_isDone_485 ?_
  refine lv_lshl (v := (((nI ((ac dv) + 1))).toInt64) <<< ((nI (6 * dv)).toInt64 &&& 63)) hx hb dL_isDone_486 rfl ?_
  rw [show (((nI ((ac dv) + 1))).toInt64) <<< ((nI (6 * dv)).toInt64 &&& 63) = pk (one6 dv (nI (ac dv + 1))) from lp_one hd]
  refine x_doneL X h (x_runS X h (m_L_greater (sset (sset (LL Z) (45, 0, 0, 0) (upd ((LL Z) (45, 0, 0, 0)) (3 + dv) (nI ((ac dv) + 1)))) (35, 0, 0, 0) (st6 ((sset (LL Z) (45, 0, 0, 0) (upd ((LL Z) (45, 0, 0, 0)) (3 + dv) (nI ((ac dv) + 1)))) (35, 0, 0, 0)) (24 * (10 * dv + en) + 6 * fl) z0)) (rw6 (Z (37, 0, 0, 0)) (24 * (10 * dv + en) + 6 * fl)) (one6 dv (nI (ac dv + 1))) (fun _ _ => hok.1.2.1 _) (fun _ _ => sm_one (by omega)) _) F_L_greater q772 q773 rfl (Nat.le_trans (by decide) hR1) (Nat.le_trans (by decide) hR2) ⟨by omega, by omega⟩ hl.1 (Nat.le_of_ble_eq_true rfl) dL_isDone_487 rfl) (fun H locs h => ?_)
  refine z_last X h pkB (fun _ => rfl) (by decide) (hL (37, 0, 0, 0) ⟨by decide, rfl, rfl, rfl⟩) (by omega) (st6 ((sset (sset (LL Z) (45, 0, 0, 0) (upd ((LL Z) (45, 0, 0, 0)) (3 + dv) (nI ((ac dv) + 1)))) (35, 0, 0, 0) (st6 ((sset (LL Z) (45, 0, 0, 0) (upd ((LL Z) (45, 0, 0, 0)) (3 + dv) (nI ((ac dv) + 1)))) (35, 0, 0, 0)) (24 * (10 * dv + en) + 6 * fl) z0)) (37, 0, 0, 0)) (24 * (10 * dv + en) + 6 * fl) (gM (rw6 (Z (37, 0, 0, 0)) (24 * (10 * dv + en) + 6 * fl)) (one6 dv (nI (ac dv + 1))))) (lastB (by omega) (by omega)) dL_isDone_490 (fun H locs h => ?_)
  have h := h.law hW (tel_LAe (w := (-1)) hd (by omega) hf (hR9.gl.aJ dv hd) (by omega) hok.1 hsn (fun k hk => by rw [mtl_35, if_pos (by decide)]; exact (mt0_in hk).symm))
  refine lv_aload_n hx hb dL_isDone_491 rfl (lv_at hl 14 rfl) ?_
  refine lv_iconst (v := nI 1) hx hb dL_isDone_492 (by decide) ?_
  refine lv_iload hx hb dL_isDone_493 (lv_at hl 9 rfl) ?_
  refine lv_iload hx hb dL_isDone_495 (lv_at hl 8 rfl) ?_
  refine lv_iload hx hb dL_isDone_497 (lv_at hl 6 rfl) ?_
  refine lv_iload hx hb dL_isDone_499 (lv_at hl 2 rfl) ?_
  refine x_doneI X h (x_runSH (n := 6) X h (w_does_tell_ok (LL (mtlM Z dv en fl (-1))) hL (lv := 9) (by decide) (nI dv) (nI en) (nI fl) (-1) (m_X6_tell (LL (mtlM Z dv en fl (-1))) hL hG2.ok n mcs (lb_bk hS.1 hG) z (lb_z hS.1 hG) hz6 dv en fl hd hk hf (by rw [lb_see hG (by show 9 < 30; decide)]; rw [← lb_see (G := Z) (I := Z) (fun _ _ => rfl) (k := (9, 0, en, dv)) (by show 9 < 30; decide)]; exact hkn) (-1) (hin _ (by first | exact Or.inl rfl | exact Or.inr ⟨_, by omega, rfl⟩)) (by rw [rl_ff hRG.gl (by omega) hd hf]; exact hmay)) _) q378 q5 q376 q377 ⟨by decide, by decide, by decide +kernel⟩ rfl (Nat.le_trans (by decide) hR1) (Nat.le_trans (by decide) hR2) ⟨by omega, by omega⟩ hl.1 (Nat.le_of_ble_eq_true rfl) dL_isDone_501 rfl) (fun H locs h => ?_)
  rw [show cvF (LL (mtlM Z dv en fl (-1)) (10, 0, en, dv)) fl = ctv (rw6 (Z (35, 0, 0, 0)) (24 * (10 * dv + en) + 6 * fl)) from rl_cnF (hRG.cp en dv (by omega) hd) hf]
  refine lv_iload hx hb dL_isDone_504 (lv_at hl 1 rfl) ?_
  refine n_icmp_ne (tgt := 513) hx hb (by omega) (by omega) dL_isDone_506 (by decide) (fun c => absurd rfl c) (fun _ => ?_)
  refine lv_iconst (v := nI 1) hx hb dL_isDone_509 (by decide) ?_
  refine lv_goto (tgt := 514) hx hb dL_isDone_510 (by decide) ?_
  rw [hRb] at h
  exact kk ad Ks gm _ H locs ls ⟨hL, hW, hG2, hT9⟩ (AEq.refl ad) h

set_option maxHeartbeats 4000000 in
set_option maxRecDepth 100000 in
theorem da_tel2 (X : Cx p s mth args meth c cL_isDone yL_isDone.cls 26 D tc dz A) (hR1 : 14 ≤ R.frames) (hR2 : 462 ≤ R.locals) (hcR : cells + 0 ≤ R.cells) (hsR : slots + 0 ≤ R.slots) (hL : LV gm Ks) (hst : l.stackTraces = false) (hW : LW gm Ks) (hG2 : GM2 gm) (Z : Mem) (V : Nat → BS) (acts : Nat → Act) (z n m t : Nat) (ac mcs : Nat → Nat) (cn : Nat) (hS : LWS Z gm V acts z n m t ac mcs cn) (hcn : cn < 58) (b at9 : Nat) (what one two three : Nat) (h40 : what < 40) (h60 : one < 6000) (h70 : two < 7000) (h80 : three < 8000) (dv en : Nat) (hdv : dv ≤ 6) (hen : en ≤ 2) (fl : Nat) (hf : fl < 4) (hmay : mayB Z dv en fl = true) (hd : dv < 6) (hk : en < n) (h34 : Z (34, 0, 0, 0) (10 * dv + en) = nI 1) (h36 : ¬ three % 6 = 0) (h : Sx D A ad Ks (lay tc ad gm dz (LL Z)) s H locs) (hl : lv_has ls 26 [(20, .int (bI true)), (19, .int (nI fl)), (18, .int (bI true)), (17, .int (nI en)), (16, .int (nI dv)), (15, .int (nI three)), (14, .int (nI two)), (13, .int (nI one)), (12, .int (nI what)), (0, .ref (ad (0, 0, 0, 0))), (1, .ref b), (2, .int (nI at9)), (3, .ref (ad (35, 0, 0, 0))), (4, .ref (ad (37, 0, 0, 0))), (5, .ref (ad (39, 0, 0, 0))), (6, .ref (ad (43, 0, 0, 0))), (7, .ref (ad (44, 0, 0, 0))), (8, .ref (ad (41, 0, 0, 0))), (9, .ref (ad (42, 0, 0, 0))), (10, .ref (ad (40, 0, 0, 0))), (11, .ref (ad (45, 0, 0, 0)))])
    (kk : ∀ (ad1 : KN → Nat) (Ks1 : List KN) (gm1 : GM) (Z1 : Mem) (H1 : Heap) (locs1 : List Loc) (ls1 : Array Slot), NY (cn + 1) gm1 Ks1 Z1 → AEq ad ad1 → Sx D A ad1 Ks1 (lay tc ad1 gm1 dz (LL Z1)) s H1 locs1 → W p l e R s mth args below meth c H1 locs1 cells slots Q (F0 mth 514 ls1 [.int (bI true)])) : W p l e R s mth args below meth c H locs cells slots Q (F0 mth 266 ls []) := by
  have hok := hS.2.1
  have hn2 := hS.2.2.1
  have hm10 := hS.2.2.2
  have hN := nr_of hS.1.1
  have ht9 : t ≤ 2000 := by have := hS.1.2.2.2.2.2.2.2.2.2.1; omega
  have hBK := lb_bk (G := Z) hS.1 (fun _ _ => rfl)
  have hR9 := lb_rel0 (G := Z) hS.1.1 (fun _ _ => rfl)
  have hac9 := hS.1.2.2.2.2.2.2.2.2.2.2.1 dv
  have hz6 : z < 512 := by have := hS.1.2.2.2.2.2.2.2.1; omega
  have hC := hR9.cp en dv (by omega) hd
  have hkn := ck_yes hC h34
  have hG : ∀ k : KN, k.1 < 30 → (mtlM Z dv en fl (nI ((100 * dv + 37 * (ac dv + 1)) % 1000))) k = Z k := fun k hk => mtl_lo hk
  have hct9 : ctv (rw6 (Z (35, 0, 0, 0)) (24 * (10 * dv + en) + 6 * fl)) ≤ 6 := cntN_le _ _
  have hin : ∀ w : Int32, (w = -1 ∨ ∃ x : Nat, x < 1000 ∧ w = nI x) → inR w (-1) (nI 999) = true := tell_in
  have hRG := lb_rel0 (G := (mtlM Z dv en fl (nI ((100 * dv + 37 * (ac dv + 1)) % 1000)))) hS.1.1 hG
  obtain ⟨hT9, hRb⟩ := st_tell hS hcn hd hk hf (v := (nI ((100 * dv + 37 * (ac dv + 1)) % 1000))) (by first | exact Or.inl rfl | exact Or.inr rfl)
  have hsn : (Z (37, 0, 0, 0) (24 * (10 * dv + en) + 6 * fl + dv)).toInt ≤ ac dv := by have q := lws_sn hS (by omega) hd (show en < 10 by omega) (c := 6 * fl + dv) (by omega); rw [show (6 * fl + dv) % 6 = dv by omega] at q; unfold cl at q; rw [← Nat.add_assoc] at q; exact q
  obtain ⟨hx, hb, hmaxL, hown, hts⟩ := id X.1
  refine lv_iload hx hb dL_isDone_266 (lv_at hl 2 rfl) ?_
  refine b_if_eq (tgt := 300) hx hb dL_isDone_268 (by decide) (fun c => (Bool.noConfusion c)) (fun _ => ?_)
  refine lv_iload hx hb dL_isDone_271 (lv_at hl 1 rfl) ?_
  refine lv_iconst (v := nI 4) hx hb dL_isDone_273 (by decide) ?_
  refine n_icmp_ge (tgt := 300) hx hb (by omega) (by omega) dL_isDone_274 (by decide) (fun c => absurd hf (by omega)) (fun _ => ?_)
  refine lv_iload hx hb dL_isDone_277 (lv_at hl 0 rfl) ?_
  refine b_if_eq (tgt := 300) hx hb dL_isDone_279 (by decide) (fun c => (Bool.noConfusion c)) (fun _ => ?_)
  refine lv_aload hx hb dL_isDone_282 (lv_at hl 16 rfl) ?_
  refine lv_iload hx hb dL_isDone_284 (lv_at hl 4 rfl) ?_
  refine lv_iload hx hb dL_isDone_286 (lv_at hl 3 rfl) ?_
  refine lv_iload hx hb dL_isDone_288 (lv_at hl 1 rfl) ?_
  refine x_doneI X h (x_runS X h (m_L_may Z hL dv en hd (by omega) fl hf _) F_L_may q766 q767 rfl (Nat.le_trans (by decide) hR1) (Nat.le_trans (by decide) hR2) ⟨by omega, by omega⟩ hl.1 (Nat.le_of_ble_eq_true rfl) dL_isDone_290 rfl) (fun H locs h => ?_)
  refine b_if_eq (tgt := 300) hx hb dL_isDone_293 (by decide) (fun c => absurd (hmay.symm.trans c) (by decide)) (fun _ => ?_)
  refine lv_iconst (v := nI 1) hx hb dL_isDone_296 (by decide) ?_
  refine lv_goto (tgt := 301) hx hb dL_isDone_297 (by decide) ?_
  refine lv_istore (lv' := [(21, .int (nI 1)), (20, .int (bI true)), (19, .int (nI fl)), (18, .int (bI true)), (17, .int (nI en)), (16, .int (nI dv)), (15, .int (nI three)), (14, .int (nI two)), (13, .int (nI one)), (12, .int (nI what)), (0, .ref (ad (0, 0, 0, 0))), (1, .ref b), (2, .int (nI at9)), (3, .ref (ad (35, 0, 0, 0))), (4, .ref (ad (37, 0, 0, 0))), (5, .ref (ad (39, 0, 0, 0))), (6, .ref (ad (43, 0, 0, 0))), (7, .ref (ad (44, 0, 0, 0))), (8, .ref (ad (41, 0, 0, 0))), (9, .ref (ad (42, 0, 0, 0))), (10, .ref (ad (40, 0, 0, 0))), (11, .ref (ad (45, 0, 0, 0)))]) hx hb dL_isDone_301 hl (by decide) rfl (fun ls hl => ?_)
  refine lv_iload hx hb dL_isDone_303 (lv_at hl 5 rfl) ?_
  refine lv_bipush (v := nI 6) hx hb dL_isDone_305 (by decide) ?_
  refine n_icmp_ge (tgt := 322) hx hb (by omega) (by omega) dL_isDone_307 (by decide) (fun c => absurd hd (by omega)) (fun _ => ?_)
  refine lv_aload hx hb dL_isDone_310 (lv_at hl 21 rfl) ?_
  refine lv_iconst (v := nI 3) hx hb dL_isDone_312 (by decide) ?_
  refine lv_iload hx hb dL_isDone_313 (lv_at hl 5 rfl) ?_
  refine n_iadd hx hb dL_isDone_315 ?_
  refine y_ald X h (fun _ => rfl) (by decide) (hL (45, 0, 0, 0) ⟨by decide, rfl, rfl, rfl⟩) (by omega) (v := nI (ac dv)) (gc_3.trans (hS.1.1.gl.aJ dv (by omega))) dL_isDone_316 ?_
  refine lv_iconst (v := nI 1) hx hb dL_isDone_317 (by decide) ?_
  refine n_iadd hx hb dL_isDone_318 ?_
  refine lv_goto (tgt := 323) hx hb dL_isDone_319 (by decide) ?_
  refine lv_istore (lv' := [(22, .int (nI ((ac dv) + 1))), (21, .int (nI 1)), (20, .int (bI true)), (19, .int (nI fl)), (18, .int (bI true)), (17, .int (nI en)), (16, .int (nI dv)), (15, .int (nI three)), (14, .int (nI two)), (13, .int (nI one)), (12, .int (nI what)), (0, .ref (ad (0, 0, 0, 0))), (1, .ref b), (2, .int (nI at9)), (3, .ref (ad (35, 0, 0, 0))), (4, .ref (ad (37, 0, 0, 0))), (5, .ref (ad (39, 0, 0, 0))), (6, .ref (ad (43, 0, 0, 0))), (7, .ref (ad (44, 0, 0, 0))), (8, .ref (ad (41, 0, 0, 0))), (9, .ref (ad (42, 0, 0, 0))), (10, .ref (ad (40, 0, 0, 0))), (11, .ref (ad (45, 0, 0, 0)))]) hx hb dL_isDone_323 hl (by decide) rfl (fun ls hl => ?_)
  refine lv_iload hx hb dL_isDone_325 (lv_at hl 2 rfl) ?_
  refine b_if_ne (tgt := 336) hx hb dL_isDone_327 (by decide) (fun _ => ?_) (fun c => (Bool.noConfusion c))
  refine lv_iload hx hb dL_isDone_336 (lv_at hl 7 rfl) ?_
  refine lv_bipush (v := nI 6) hx hb dL_isDone_338 (by decide) ?_
  refine n_irem hx hb (by omega) (by omega) (by omega) dL_isDone_340 ?_
  refine n_if_ne (tgt := 348) hx hb (by omega) dL_isDone_341 (by decide) (fun _ => ?_) (fun c => absurd c h36)
  refine lv_iload hx hb dL_isDone_348 (lv_at hl 6 rfl) ?_
  refine lv_bipush (v := nI 6) hx hb dL_isDone_350 (by decide) ?_
  refine n_icmp_ge (tgt := 365) hx hb (by omega) (by omega) dL_isDone_352 (by decide) (fun c => absurd hd (by omega)) (fun _ => ?_)
  refine lv_iload hx hb dL_isDone_355 (lv_at hl 6 rfl) ?_
  refine lv_iload hx hb dL_isDone_357 (lv_at hl 0 rfl) ?_
  refine x_doneI X h (x_runS X h (m_L_value (LL Z) dv ((ac dv) + 1) (by omega) (by omega) _) F_L_value q760 q761 rfl (Nat.le_trans (by decide) hR1) (Nat.le_trans (by decide) hR2) ⟨by omega, by omega⟩ hl.1 (Nat.le_of_ble_eq_true rfl) dL_isDone_359 rfl) (fun H locs h => ?_)
  refine lv_goto (tgt := 366) hx hb dL_isDone_362 (by decide) ?_
  refine lv_istore (lv' := [(23, .int (nI ((100 * dv + 37 * ((ac dv) + 1)) % 1000))), (22, .int (nI ((ac dv) + 1))), (21, .int (nI 1)), (20, .int (bI true)), (19, .int (nI fl)), (18, .int (bI true)), (17, .int (nI en)), (16, .int (nI dv)), (15, .int (nI three)), (14, .int (nI two)), (13, .int (nI one)), (12, .int (nI what)), (0, .ref (ad (0, 0, 0, 0))), (1, .ref b), (2, .int (nI at9)), (3, .ref (ad (35, 0, 0, 0))), (4, .ref (ad (37, 0, 0, 0))), (5, .ref (ad (39, 0, 0, 0))), (6, .ref (ad (43, 0, 0, 0))), (7, .ref (ad (44, 0, 0, 0))), (8, .ref (ad (41, 0, 0, 0))), (9, .ref (ad (42, 0, 0, 0))), (10, .ref (ad (40, 0, 0, 0))), (11, .ref (ad (45, 0, 0, 0)))]) hx hb dL_isDone_366 hl (by decide) rfl (fun ls hl => ?_)
  refine lv_iload hx hb dL_isDone_368 (lv_at hl 5 rfl) ?_
  refine b_if_eq (tgt := 379) hx hb dL_isDone_370 (by decide) (fun c => (Bool.noConfusion c)) (fun _ => ?_)
  refine lv_iload hx hb dL_isDone_373 (lv_at hl 4 rfl) ?_
  refine lv_iconst (v := nI 4) hx hb dL_isDone_375 (by decide) ?_
  refine n_icmp_ne (tgt := 385) hx hb (by omega) (by omega) dL_isDone_376 (by decide) (fun _ => ?_) (fun c => absurd hf (by omega))
  refine lv_iload hx hb dL_isDone_385 (lv_at hl 3 rfl) ?_
  refine b_if_ne (tgt := 396) hx hb dL_isDone_387 (by decide) (fun _ => ?_) (fun c => (Bool.noConfusion c))
  refine lv_iload hx hb dL_isDone_396 (lv_at hl 2 rfl) ?_
  refine lv_if_eq (tgt := 418) hx hb dL_isDone_398 (by decide) (fun c => absurd c (by decide)) (fun _ => ?_)
  refine lv_aload_n hx hb dL_isDone_401 rfl (lv_at hl 15 rfl) ?_
  refine lv_iload hx hb dL_isDone_402 (lv_at hl 7 rfl) ?_
  refine lv_iload hx hb dL_isDone_404 (lv_at hl 6 rfl) ?_
  refine lv_iload hx hb dL_isDone_406 (lv_at hl 4 rfl) ?_
  refine x_doneI X h (x_runS X h (m_L_at (LL Z) dv en fl _) F_L_at q744 q745 rfl (Nat.le_trans (by decide) hR1) (Nat.le_trans (by decide) hR2) ⟨by omega, by omega⟩ hl.1 (Nat.le_of_ble_eq_true rfl) dL_isDone_408 rfl) (fun H locs h => ?_)
  refine z_lald X h pkB (fun _ => rfl) (by decide) (hL (35, 0, 0, 0) ⟨by decide, rfl, rfl, rfl⟩) (by omega) (v := pk (rw6 (Z (35, 0, 0, 0)) (24 * (10 * dv + en) + 6 * fl))) ((congrFun (congrArg pkB (LL_see (by decide))) _).trans (pkB_at (by omega) (by omega))) dL_isDone_411 ?_
  refine x_doneI X h (x_runS X h (m_L_count (LL Z) (rw6 (Z (35, 0, 0, 0)) (24 * (10 * dv + en) + 6 * fl)) (fun _ _ => hok.1.1 _) _) F_L_count q757 q758 rfl (Nat.le_trans (by decide) hR1) (Nat.le_trans (by decide) hR2) ⟨by omega, by omega⟩ hl.1 (Nat.le_of_ble_eq_true rfl) dL_isDone_412 rfl) (fun H locs h => ?_)
  refine lv_goto (tgt := 420) hx hb dL_isDone_415 (by decide) ?_
  refine lv_istore (lv' := [(24, .int (nI (ctv (rw6 (Z (35, 0, 0, 0)) (24 * (10 * dv + en) + 6 * fl))))), (23, .int (nI ((100 * dv + 37 * ((ac dv) + 1)) % 1000))), (22, .int (nI ((ac dv) + 1))), (21, .int (nI 1)), (20, .int (bI true)), (19, .int (nI fl)), (18, .int (bI true)), (17, .int (nI en)), (16, .int (nI dv)), (15, .int (nI three)), (14, .int (nI two)), (13, .int (nI one)), (12, .int (nI what)), (0, .ref (ad (0, 0, 0, 0))), (1, .ref b), (2, .int (nI at9)), (3, .ref (ad (35, 0, 0, 0))), (4, .ref (ad (37, 0, 0, 0))), (5, .ref (ad (39, 0, 0, 0))), (6, .ref (ad (43, 0, 0, 0))), (7, .ref (ad (44, 0, 0, 0))), (8, .ref (ad (41, 0, 0, 0))), (9, .ref (ad (42, 0, 0, 0))), (10, .ref (ad (40, 0, 0, 0))), (11, .ref (ad (45, 0, 0, 0)))]) hx hb dL_isDone_420 hl (by decide) rfl (fun ls hl => ?_)
  refine lv_iload hx hb dL_isDone_422 (lv_at hl 3 rfl) ?_
  refine lv_if_eq (tgt := 491) hx hb dL_isDone_424 (by decide) (fun c => absurd c (by decide)) (fun _ => ?_)
  refine lv_iload hx hb dL_isDone_427 (lv_at hl 8 rfl) ?_
  refine lv_iload hx hb dL_isDone_429 (lv_at hl 7 rfl) ?_
  refine lv_iload hx hb dL_isDone_431 (lv_at hl 5 rfl) ?_
  refine x_doneI X h (x_runS X h (m_L_at (LL Z) dv en fl _) F_L_at q744 q745 rfl (Nat.le_trans (by decide) hR1) (Nat.le_trans (by decide) hR2) ⟨by omega, by omega⟩ hl.1 (Nat.le_of_ble_eq_true rfl) dL_isDone_433 rfl) (fun H locs h => ?_)
  refine lv_istore (lv' := [(25, .int (nI (8 * dv + 4 * en + fl))), (24, .int (nI (ctv (rw6 (Z (35, 0, 0, 0)) (24 * (10 * dv + en) + 6 * fl))))), (23, .int (nI ((100 * dv + 37 * ((ac dv) + 1)) % 1000))), (22, .int (nI ((ac dv) + 1))), (21, .int (nI 1)), (20, .int (bI true)), (19, .int (nI fl)), (18, .int (bI true)), (17, .int (nI en)), (16, .int (nI dv)), (15, .int (nI three)), (14, .int (nI two)), (13, .int (nI one)), (12, .int (nI what)), (0, .ref (ad (0, 0, 0, 0))), (1, .ref b), (2, .int (nI at9)), (3, .ref (ad (35, 0, 0, 0))), (4, .ref (ad (37, 0, 0, 0))), (5, .ref (ad (39, 0, 0, 0))), (6, .ref (ad (43, 0, 0, 0))), (7, .ref (ad (44, 0, 0, 0))), (8, .ref (ad (41, 0, 0, 0))), (9, .ref (ad (42, 0, 0, 0))), (10, .ref (ad (40, 0, 0, 0))), (11, .ref (ad (45, 0, 0, 0)))]) hx hb dL_isDone_436 hl (by decide) rfl (fun ls hl => ?_)
  refine lv_aload hx hb dL_isDone_438 (lv_at hl 25 rfl) ?_
  refine lv_iconst (v := nI 3) hx hb dL_isDone_440 (by decide) ?_
  refine lv_iload hx hb dL_isDone_441 (lv_at hl 9 rfl) ?_
  refine n_iadd hx hb dL_isDone_443 ?_
  refine lv_iload hx hb dL_isDone_444 (lv_at hl 3 rfl) ?_
  refine y_ast X h (fun _ => rfl) (by decide) (hL (45, 0, 0, 0) ⟨by decide, rfl, rfl, rfl⟩) (by omega) dL_isDone_446 (fun H locs h => ?_)
  refine lv_aload_n hx hb dL_isDone_447 rfl (lv_at hl 17 rfl) ?_
  refine lv_iload hx hb dL_isDone_448 (lv_at hl 0 rfl) ?_
  refine lv_iload hx hb dL_isDone_450 (lv_at hl 2 rfl) ?_
  refine lv_if_ge (tgt := 459) hx hb dL_isDone_452 (by decide) (fun _ => ?_) (fun c => absurd (n_gez (by omega)) c)
  refine lv_iload hx hb dL_isDone_459 (lv_at hl 3 rfl) ?_
  refine lv_i2l (v := ((nI ((ac dv) + 1))).toInt64) hx hb dL_isDone_461 rfl ?_
  refine lv_bipush (v := nI 6) hx hb dL_isDone_462 (by decide) ?_
  refine lv_iload hx hb dL_isDone_464 (lv_at hl 9 rfl) ?_
  refine n_imul hx hb dL_isDone_466 ?_
  refine lv_lshl (v := (((nI ((ac dv) + 1))).toInt64) <<< ((nI (6 * dv)).toInt64 &&& 63)) hx hb dL_isDone_467 rfl ?_
  rw [show (((nI ((ac dv) + 1))).toInt64) <<< ((nI (6 * dv)).toInt64 &&& 63) = pk (one6 dv (nI (ac dv + 1))) from lp_one hd]
  refine z_last X h pkB (fun _ => rfl) (by decide) (hL (35, 0, 0, 0) ⟨by decide, rfl, rfl, rfl⟩) (by omega) (st6 ((sset (LL Z) (45, 0, 0, 0) (upd ((LL Z) (45, 0, 0, 0)) (3 + dv) (nI ((ac dv) + 1)))) (35, 0, 0, 0)) (24 * (10 * dv + en) + 6 * fl) (one6 dv (nI (ac dv + 1)))) (lastB (by omega) (by omega)) dL_isDone_468 (fun H locs h => ?_)
  refine lv_aload hx hb dL_isDone_469 (lv_at hl 18 rfl) ?_
  refine lv_iload hx hb dL_isDone_471 (lv_at hl 0 rfl) ?_
  refine lv_aload hx hb dL_isDone_473 (lv_at hl 18 rfl) ?_
  refine lv_iload hx hb dL_isDone_475 (lv_at hl 0 rfl) ?_
  refine z_lald X h pkB (fun _ => rfl) (by decide) (hL (37, 0, 0, 0) ⟨by decide, rfl, rfl, rfl⟩) (by omega) (v := pk (rw6 (Z (37, 0, 0, 0)) (24 * (10 * dv + en) + 6 * fl))) ((congrFun (congrArg pkB ((sset_ne _ _ (nek (by decide))).trans ((sset_ne _ _ (nek (by decide))).trans (LL_see (by decide))))) _).trans (pkB_at (by omega) (by omega))) dL_isDone_477 ?_
  refine lv_iload hx hb dL_isDone_478 (lv_at hl 3 rfl) ?_
  refine lv_i2l (v := ((nI ((ac dv) + 1))).toInt64) hx hb dL_isDone_480 rfl ?_
  refine lv_bipush (v := nI 6) hx hb dL_isDone_481 (by decide) ?_
  refine lv_iload hx hb dL_isDone_483 (lv_at hl 9 rfl) ?_
  refine n_imul hx hb dL_isDone_485 ?_
  refine lv_lshl (v := (((nI ((ac dv) + 1))).toInt64) <<< ((nI (6 * dv)).toInt64 &&& 63)) hx hb dL_isDone_486 rfl ?_
  rw [show (((nI ((ac dv) + 1))).toInt64) <<< ((nI (6 * dv)).toInt64 &&& 63) = pk (one6 dv (nI (ac dv + 1))) from lp_one hd]
  refine x_doneL X h (x_runS X h (m_L_greater (sset (sset (LL Z) (45, 0, 0, 0) (upd ((LL Z) (45, 0, 0, 0)) (3 + dv) (nI ((ac dv) + 1)))) (35, 0, 0, 0) (st6 ((sset (LL Z) (45, 0, 0, 0) (upd ((LL Z) (45, 0, 0, 0)) (3 + dv) (nI ((ac dv) + 1)))) (35, 0, 0, 0)) (24 * (10 * dv + en) + 6 * fl) (one6 dv (nI (ac dv + 1))))) (rw6 (Z (37, 0, 0, 0)) (24 * (10 * dv + en) + 6 * fl)) (one6 dv (nI (ac dv + 1))) (fun _ _ => hok.1.2.1 _) (fun _ _ => sm_one (by omega)) _) F_L_greater q772 q773 rfl (Nat.le_trans (by decide) hR1) (Nat.le_trans (by decide) hR2) ⟨by omega, by omega⟩ hl.1 (Nat.le_of_ble_eq_true rfl) dL_isDone_487 rfl) (fun H locs h => ?_)
  refine z_last X h pkB (fun _ => rfl) (by decide) (hL (37, 0, 0, 0) ⟨by decide, rfl, rfl, rfl⟩) (by omega) (st6 ((sset (sset (LL Z) (45, 0, 0, 0) (upd ((LL Z) (45, 0, 0, 0)) (3 + dv) (nI ((ac dv) + 1)))) (35, 0, 0, 0) (st6 ((sset (LL Z) (45, 0, 0, 0) (upd ((LL Z) (45, 0, 0, 0)) (3 + dv) (nI ((ac dv) + 1)))) (35, 0, 0, 0)) (24 * (10 * dv + en) + 6 * fl) (one6 dv (nI (ac dv + 1))))) (37, 0, 0, 0)) (24 * (10 * dv + en) + 6 * fl) (gM (rw6 (Z (37, 0, 0, 0)) (24 * (10 * dv + en) + 6 * fl)) (one6 dv (nI (ac dv + 1))))) (lastB (by omega) (by omega)) dL_isDone_490 (fun H locs h => ?_)
  have h := h.law hW (tel_LAe (w := (nI ((100 * dv + 37 * (ac dv + 1)) % 1000))) hd (by omega) hf (hR9.gl.aJ dv hd) (by omega) hok.1 hsn (tel_v35 (hR9.gl.aJ dv hd) (by omega)))
  refine lv_aload_n hx hb dL_isDone_491 rfl (lv_at hl 14 rfl) ?_
  refine lv_iconst (v := nI 1) hx hb dL_isDone_492 (by decide) ?_
  refine lv_iload hx hb dL_isDone_493 (lv_at hl 9 rfl) ?_
  refine lv_iload hx hb dL_isDone_495 (lv_at hl 8 rfl) ?_
  refine lv_iload hx hb dL_isDone_497 (lv_at hl 6 rfl) ?_
  refine lv_iload hx hb dL_isDone_499 (lv_at hl 2 rfl) ?_
  refine x_doneI X h (x_runSH (n := 6) X h (w_does_tell_ok (LL (mtlM Z dv en fl (nI ((100 * dv + 37 * (ac dv + 1)) % 1000)))) hL (lv := 9) (by decide) (nI dv) (nI en) (nI fl) (nI ((100 * dv + 37 * (ac dv + 1)) % 1000)) (m_X6_tell (LL (mtlM Z dv en fl (nI ((100 * dv + 37 * (ac dv + 1)) % 1000)))) hL hG2.ok n mcs (lb_bk hS.1 hG) z (lb_z hS.1 hG) hz6 dv en fl hd hk hf (by rw [lb_see hG (by show 9 < 30; decide)]; rw [← lb_see (G := Z) (I := Z) (fun _ _ => rfl) (k := (9, 0, en, dv)) (by show 9 < 30; decide)]; exact hkn) (nI ((100 * dv + 37 * (ac dv + 1)) % 1000)) (hin _ (by first | exact Or.inl rfl | exact Or.inr ⟨_, by omega, rfl⟩)) (by rw [rl_ff hRG.gl (by omega) hd hf]; exact hmay)) _) q378 q5 q376 q377 ⟨by decide, by decide, by decide +kernel⟩ rfl (Nat.le_trans (by decide) hR1) (Nat.le_trans (by decide) hR2) ⟨by omega, by omega⟩ hl.1 (Nat.le_of_ble_eq_true rfl) dL_isDone_501 rfl) (fun H locs h => ?_)
  rw [show cvF (LL (mtlM Z dv en fl (nI ((100 * dv + 37 * (ac dv + 1)) % 1000))) (10, 0, en, dv)) fl = ctv (rw6 (Z (35, 0, 0, 0)) (24 * (10 * dv + en) + 6 * fl)) from rl_cnF (hRG.cp en dv (by omega) hd) hf]
  refine lv_iload hx hb dL_isDone_504 (lv_at hl 1 rfl) ?_
  refine n_icmp_ne (tgt := 513) hx hb (by omega) (by omega) dL_isDone_506 (by decide) (fun c => absurd rfl c) (fun _ => ?_)
  refine lv_iconst (v := nI 1) hx hb dL_isDone_509 (by decide) ?_
  refine lv_goto (tgt := 514) hx hb dL_isDone_510 (by decide) ?_
  rw [hRb] at h
  exact kk ad Ks gm _ H locs ls ⟨hL, hW, hG2, hT9⟩ (AEq.refl ad) h

set_option maxHeartbeats 4000000 in
set_option maxRecDepth 100000 in
theorem da_del (X : Cx p s mth args meth c cL_isDone yL_isDone.cls 26 D tc dz A) (hR1 : 14 ≤ R.frames) (hR2 : 462 ≤ R.locals) (hcR : cells + 5 ≤ R.cells) (hsR : slots + 63 ≤ R.slots) (hL : LV gm Ks) (hst : l.stackTraces = false) (hW : LW gm Ks) (hG2 : GM2 gm) (Z : Mem) (V : Nat → BS) (acts : Nat → Act) (z n m t : Nat) (ac mcs : Nat → Nat) (cn : Nat) (hS : LWS Z gm V acts z n m t ac mcs cn) (hcn : cn < 58) (b at9 : Nat) (what one two three : Nat) (h40 : what < 40) (h60 : one < 6000) (h70 : two < 7000) (h80 : three < 8000) (dv en : Nat) (hdv : dv ≤ 6) (hen : en ≤ 2) (hw : what < 20) (hd : dv < 6) (hk : en < n) (h34 : Z (34, 0, 0, 0) (10 * dv + en) = nI 1) (how : Z (32, 0, 0, 0) en = nI (dv / 2)) (hst1 : mstR Z dv en m = 1) (hm : m < 10) (h : Sx D A ad Ks (lay tc ad gm dz (LL Z)) s H locs) (hl : lv_has ls 26 [(18, .int (bI true)), (17, .int (nI en)), (16, .int (nI dv)), (15, .int (nI three)), (14, .int (nI two)), (13, .int (nI one)), (12, .int (nI what)), (0, .ref (ad (0, 0, 0, 0))), (1, .ref b), (2, .int (nI at9)), (3, .ref (ad (35, 0, 0, 0))), (4, .ref (ad (37, 0, 0, 0))), (5, .ref (ad (39, 0, 0, 0))), (6, .ref (ad (43, 0, 0, 0))), (7, .ref (ad (44, 0, 0, 0))), (8, .ref (ad (41, 0, 0, 0))), (9, .ref (ad (42, 0, 0, 0))), (10, .ref (ad (40, 0, 0, 0))), (11, .ref (ad (45, 0, 0, 0)))])
    (kk : ∀ (ad1 : KN → Nat) (Ks1 : List KN) (gm1 : GM) (Z1 : Mem) (H1 : Heap) (locs1 : List Loc) (ls1 : Array Slot), NY (cn + 1) gm1 Ks1 Z1 → AEq ad ad1 → Sx D A ad1 Ks1 (lay tc ad1 gm1 dz (LL Z1)) s H1 locs1 → W p l e R s mth args below meth c H1 locs1 (cells + 5) (slots + 63) Q (F0 mth 745 ls1 [.int (bI true)])) : W p l e R s mth args below meth c H locs cells slots Q (F0 mth 515 ls []) := by
  have hok := hS.2.1
  have hn2 := hS.2.2.1
  have hm10 := hS.2.2.2
  have hN := nr_of hS.1.1
  have ht9 : t ≤ 2000 := by have := hS.1.2.2.2.2.2.2.2.2.2.1; omega
  have hBK := lb_bk (G := Z) hS.1 (fun _ _ => rfl)
  have hR9 := lb_rel0 (G := Z) hS.1.1 (fun _ _ => rfl)
  have hac9 := hS.1.2.2.2.2.2.2.2.2.2.2.1 dv
  have hz6 : z < 512 := by have := hS.1.2.2.2.2.2.2.2.1; omega
  have hC := hR9.cp en dv (by omega) hd
  have hkn := ck_yes hC h34
  have how9 : LL Z (4, 0, en, 0) 0 = Z (32, 0, 0, 0) en := hR9.gl.ow en (by omega)
  have hs3 := mst_le Z dv en m
  have hG : ∀ k : KN, k.1 < 30 → (mdlM Z dv en m) k = Z k := fun k hk => mdl_lo hk
  have hRG := lb_rel0 (G := (mdlM Z dv en m)) hS.1.1 hG
  have hg0 := hS.1.2.2.2.2.2.1
  have hg1 := hS.1.2.2.2.2.2.2.1
  have hmc9 : mcs en ≤ 10 := by rw [hR9.mk.ct en (by omega)]; exact Nat.le_trans (cntN_le _ _) hm10
  have hge := hg0 en
  have hnm : ¬ mcs en < (gm 0 en).1 := by omega
  have hca := cnA_le (I := Z) (d := dv) (e := en) 4
  obtain ⟨hx, hb, hmaxL, hown, hts⟩ := id X.1
  refine lv_iload hx hb dL_isDone_515 (lv_at hl 6 rfl) ?_
  refine lv_bipush (v := nI 20) hx hb dL_isDone_517 (by decide) ?_
  refine n_icmp_ge (tgt := 746) hx hb (by omega) (by omega) dL_isDone_519 (by decide) (fun c => absurd hw (by omega)) (fun _ => ?_)
  refine lv_iload hx hb dL_isDone_522 (lv_at hl 0 rfl) ?_
  refine b_if_eq (tgt := 567) hx hb dL_isDone_524 (by decide) (fun c => (Bool.noConfusion c)) (fun _ => ?_)
  refine lv_aload hx hb dL_isDone_527 (lv_at hl 14 rfl) ?_
  refine lv_iconst (v := nI 4) hx hb dL_isDone_529 (by decide) ?_
  refine lv_iload hx hb dL_isDone_530 (lv_at hl 1 rfl) ?_
  refine n_imul hx hb dL_isDone_532 ?_
  refine y_ald X h (fun _ => rfl) (by decide) (hL (44, 0, 0, 0) ⟨by decide, rfl, rfl, rfl⟩) (by omega) (v := Z (32, 0, 0, 0) en) wc_o dL_isDone_533 ?_
  refine lv_iload hx hb dL_isDone_534 (lv_at hl 2 rfl) ?_
  refine lv_iconst (v := nI 2) hx hb dL_isDone_536 (by decide) ?_
  refine n_idiv hx hb (by omega) (by omega) (by omega) dL_isDone_537 ?_
  refine lv_icmp_ne (tgt := 567) hx hb dL_isDone_538 (by decide) (fun c => absurd how c) (fun _ => ?_)
  refine lv_aload_n hx hb dL_isDone_541 rfl (lv_at hl 10 rfl) ?_
  refine lv_aload hx hb dL_isDone_542 (lv_at hl 13 rfl) ?_
  refine lv_aload hx hb dL_isDone_544 (lv_at hl 15 rfl) ?_
  refine lv_aload hx hb dL_isDone_546 (lv_at hl 16 rfl) ?_
  refine lv_aload hx hb dL_isDone_548 (lv_at hl 17 rfl) ?_
  refine lv_aload hx hb dL_isDone_550 (lv_at hl 18 rfl) ?_
  refine lv_iload hx hb dL_isDone_552 (lv_at hl 2 rfl) ?_
  refine lv_iload hx hb dL_isDone_554 (lv_at hl 1 rfl) ?_
  refine x_doneI X h (x_runS X h (m_L_state Z hL hok.1 hok.k01 n m t hN hn2 hm10 ht9 dv en hd (by omega) _) F_L_state q738 q739 rfl (Nat.le_trans (by decide) hR1) (Nat.le_trans (by decide) hR2) ⟨by omega, by omega⟩ hl.1 (Nat.le_of_ble_eq_true rfl) dL_isDone_556 rfl) (fun H locs h => ?_)
  refine lv_iconst (v := nI 1) hx hb dL_isDone_559 (by decide) ?_
  refine n_icmp_ne (tgt := 567) hx hb (by omega) (by omega) dL_isDone_560 (by decide) (fun c => absurd hst1 c) (fun _ => ?_)
  refine lv_iconst (v := nI 1) hx hb dL_isDone_563 (by decide) ?_
  refine lv_goto (tgt := 568) hx hb dL_isDone_564 (by decide) ?_
  rw [show nI 1 = bI true from rfl]
  refine lv_istore (lv' := [(19, .int (bI true)), (18, .int (bI true)), (17, .int (nI en)), (16, .int (nI dv)), (15, .int (nI three)), (14, .int (nI two)), (13, .int (nI one)), (12, .int (nI what)), (0, .ref (ad (0, 0, 0, 0))), (1, .ref b), (2, .int (nI at9)), (3, .ref (ad (35, 0, 0, 0))), (4, .ref (ad (37, 0, 0, 0))), (5, .ref (ad (39, 0, 0, 0))), (6, .ref (ad (43, 0, 0, 0))), (7, .ref (ad (44, 0, 0, 0))), (8, .ref (ad (41, 0, 0, 0))), (9, .ref (ad (42, 0, 0, 0))), (10, .ref (ad (40, 0, 0, 0))), (11, .ref (ad (45, 0, 0, 0)))]) hx hb dL_isDone_568 hl (by decide) rfl (fun ls hl => ?_)
  refine lv_iload hx hb dL_isDone_570 (lv_at hl 0 rfl) ?_
  refine b_if_eq (tgt := 602) hx hb dL_isDone_572 (by decide) (fun c => (Bool.noConfusion c)) (fun _ => ?_)
  refine lv_aload hx hb dL_isDone_575 (lv_at hl 19 rfl) ?_
  refine lv_iconst (v := nI 2) hx hb dL_isDone_577 (by decide) ?_
  refine y_ald X h (fun _ => rfl) (by decide) (hL (45, 0, 0, 0) ⟨by decide, rfl, rfl, rfl⟩) (by omega) (v := nI m) (gc_2.trans hN.2.2) dL_isDone_578 ?_
  refine lv_bipush (v := nI 10) hx hb dL_isDone_579 (by decide) ?_
  refine n_icmp_ne (tgt := 602) hx hb (by omega) (by omega) dL_isDone_581 (by decide) (fun _ => ?_) (fun c => absurd c (by omega))
  refine lv_iload hx hb dL_isDone_602 (lv_at hl 1 rfl) ?_
  refine b_if_ne (tgt := 613) hx hb dL_isDone_604 (by decide) (fun _ => ?_) (fun c => (Bool.noConfusion c))
  refine lv_iload hx hb dL_isDone_613 (lv_at hl 0 rfl) ?_
  refine b_if_eq (tgt := 629) hx hb dL_isDone_615 (by decide) (fun c => (Bool.noConfusion c)) (fun _ => ?_)
  refine lv_aload_n hx hb dL_isDone_618 rfl (lv_at hl 11 rfl) ?_
  refine lv_iload hx hb dL_isDone_619 (lv_at hl 3 rfl) ?_
  refine lv_iload hx hb dL_isDone_621 (lv_at hl 2 rfl) ?_
  refine x_doneI X h (x_runS X h (m_L_all Z hL hok.1 dv en hd (by omega) _) F_L_all q754 q755 rfl (Nat.le_trans (by decide) hR1) (Nat.le_trans (by decide) hR2) ⟨by omega, by omega⟩ hl.1 (Nat.le_of_ble_eq_true rfl) dL_isDone_623 rfl) (fun H locs h => ?_)
  refine lv_goto (tgt := 631) hx hb dL_isDone_626 (by decide) ?_
  refine lv_istore (lv' := [(20, .int (nI (cnA Z dv en 4))), (19, .int (bI true)), (18, .int (bI true)), (17, .int (nI en)), (16, .int (nI dv)), (15, .int (nI three)), (14, .int (nI two)), (13, .int (nI one)), (12, .int (nI what)), (0, .ref (ad (0, 0, 0, 0))), (1, .ref b), (2, .int (nI at9)), (3, .ref (ad (35, 0, 0, 0))), (4, .ref (ad (37, 0, 0, 0))), (5, .ref (ad (39, 0, 0, 0))), (6, .ref (ad (43, 0, 0, 0))), (7, .ref (ad (44, 0, 0, 0))), (8, .ref (ad (41, 0, 0, 0))), (9, .ref (ad (42, 0, 0, 0))), (10, .ref (ad (40, 0, 0, 0))), (11, .ref (ad (45, 0, 0, 0)))]) hx hb dL_isDone_631 hl (by decide) rfl (fun ls hl => ?_)
  refine lv_iload hx hb dL_isDone_633 (lv_at hl 1 rfl) ?_
  refine b_if_eq (tgt := 724) hx hb dL_isDone_635 (by decide) (fun c => (Bool.noConfusion c)) (fun _ => ?_)
  refine lv_iconst (v := nI 0) hx hb dL_isDone_638 (by decide) ?_
  refine lv_istore (lv' := [(21, .int (nI 0)), (20, .int (nI (cnA Z dv en 4))), (19, .int (bI true)), (18, .int (bI true)), (17, .int (nI en)), (16, .int (nI dv)), (15, .int (nI three)), (14, .int (nI two)), (13, .int (nI one)), (12, .int (nI what)), (0, .ref (ad (0, 0, 0, 0))), (1, .ref b), (2, .int (nI at9)), (3, .ref (ad (35, 0, 0, 0))), (4, .ref (ad (37, 0, 0, 0))), (5, .ref (ad (39, 0, 0, 0))), (6, .ref (ad (43, 0, 0, 0))), (7, .ref (ad (44, 0, 0, 0))), (8, .ref (ad (41, 0, 0, 0))), (9, .ref (ad (42, 0, 0, 0))), (10, .ref (ad (40, 0, 0, 0))), (11, .ref (ad (45, 0, 0, 0)))]) hx hb dL_isDone_639 hl (by decide) rfl (fun ls hl => ?_)
  refine y_loop (D := D) (A := A) (ad := ad) (Ks := Ks) (nL := 26) (fun f : Nat => lay tc ad gm dz (DM Z dv en m f)) (fun f => [(21, .int (nI f)), (20, .int (nI (cnA Z dv en 4))), (19, .int (bI true)), (18, .int (bI true)), (17, .int (nI en)), (16, .int (nI dv)), (15, .int (nI three)), (14, .int (nI two)), (13, .int (nI one)), (12, .int (nI what)), (0, .ref (ad (0, 0, 0, 0))), (1, .ref b), (2, .int (nI at9)), (3, .ref (ad (35, 0, 0, 0))), (4, .ref (ad (37, 0, 0, 0))), (5, .ref (ad (39, 0, 0, 0))), (6, .ref (ad (43, 0, 0, 0))), (7, .ref (ad (44, 0, 0, 0))), (8, .ref (ad (41, 0, 0, 0))), (9, .ref (ad (42, 0, 0, 0))), (10, .ref (ad (40, 0, 0, 0))), (11, .ref (ad (45, 0, 0, 0)))]) (fun _ => []) (fun f : Nat => f ≤ 4) (fun f => 4 - f) (fun f hi641 ih641 H locs ls h hl => ?_) 0 (Nat.zero_le _) (h.eq (congrArg (lay tc ad gm dz) (DM_0 Z dv en m))) (lv_sub hl [0, 1, 2, 3, 4, 5, 6, 7, 8, 9, 10, 11, 12, 13, 14, 15, 16, 17, 18, 19, 20, 21] rfl) rfl
  have h : Sx D A ad Ks (lay tc ad gm dz (DM Z dv en m f)) s H locs := h
  have hl : lv_has ls 26 [(21, .int (nI f)), (20, .int (nI (cnA Z dv en 4))), (19, .int (bI true)), (18, .int (bI true)), (17, .int (nI en)), (16, .int (nI dv)), (15, .int (nI three)), (14, .int (nI two)), (13, .int (nI one)), (12, .int (nI what)), (0, .ref (ad (0, 0, 0, 0))), (1, .ref b), (2, .int (nI at9)), (3, .ref (ad (35, 0, 0, 0))), (4, .ref (ad (37, 0, 0, 0))), (5, .ref (ad (39, 0, 0, 0))), (6, .ref (ad (43, 0, 0, 0))), (7, .ref (ad (44, 0, 0, 0))), (8, .ref (ad (41, 0, 0, 0))), (9, .ref (ad (42, 0, 0, 0))), (10, .ref (ad (40, 0, 0, 0))), (11, .ref (ad (45, 0, 0, 0)))] := hl
  refine lv_iload hx hb dL_isDone_641 (lv_at hl 0 rfl) ?_
  refine lv_iconst (v := nI 4) hx hb dL_isDone_643 (by decide) ?_
  refine n_icmp_ge (tgt := 677) hx hb (by omega) (by omega) dL_isDone_644 (by decide) (fun c_644 => ?_) (fun c_644 => ?_)
  · skip
    have him : f = 4 := by omega
    rw [him] at h
    refine lv_aload hx hb dL_isDone_677 (lv_at hl 20 rfl) ?_
    refine lv_aload hx hb dL_isDone_679 (lv_at hl 21 rfl) ?_
    refine lv_iconst (v := nI 2) hx hb dL_isDone_681 (by decide) ?_
    refine y_ald X h (fun _ => rfl) (by decide) (hL (45, 0, 0, 0) ⟨by decide, rfl, rfl, rfl⟩) (by omega) (v := nI m) ((congrFun (DM_see (by decide)) 2).trans (gc_2.trans hN.2.2)) dL_isDone_682 ?_
    refine lv_iload hx hb dL_isDone_683 (lv_at hl 4 rfl) ?_
    refine y_ast X h (fun _ => rfl) (by decide) (hL (40, 0, 0, 0) ⟨by decide, rfl, rfl, rfl⟩) (by omega) dL_isDone_685 (fun H locs h => ?_)
    refine lv_aload hx hb dL_isDone_686 (lv_at hl 19 rfl) ?_
    refine lv_bipush (v := nI 6) hx hb dL_isDone_688 (by decide) ?_
    refine lv_aload hx hb dL_isDone_690 (lv_at hl 21 rfl) ?_
    refine lv_iconst (v := nI 2) hx hb dL_isDone_692 (by decide) ?_
    refine y_ald X h (fun _ => rfl) (by decide) (hL (45, 0, 0, 0) ⟨by decide, rfl, rfl, rfl⟩) (by omega) (v := nI m) ((congrFun ((sset_ne _ _ (nek (by decide))).trans (DM_see (by decide))) 2).trans (gc_2.trans hN.2.2)) dL_isDone_693 ?_
    refine n_imul hx hb dL_isDone_694 ?_
    refine lv_iload hx hb dL_isDone_695 (lv_at hl 5 rfl) ?_
    refine n_iadd hx hb dL_isDone_697 ?_
    refine lv_aload hx hb dL_isDone_698 (lv_at hl 21 rfl) ?_
    refine lv_iconst (v := nI 1) hx hb dL_isDone_700 (by decide) ?_
    refine y_ald X h (fun _ => rfl) (by decide) (hL (45, 0, 0, 0) ⟨by decide, rfl, rfl, rfl⟩) (by omega) (v := nI t) ((congrFun ((sset_ne _ _ (nek (by decide))).trans (DM_see (by decide))) 1).trans (gc_1.trans hN.2.1)) dL_isDone_701 ?_
    refine lv_iconst (v := nI 1) hx hb dL_isDone_702 (by decide) ?_
    refine n_iadd hx hb dL_isDone_703 ?_
    refine y_ast X h (fun _ => rfl) (by decide) (hL (42, 0, 0, 0) ⟨by decide, rfl, rfl, rfl⟩) (by omega) dL_isDone_704 (fun H locs h => ?_)
    refine lv_aload hx hb dL_isDone_705 (lv_at hl 21 rfl) ?_
    refine lv_iconst (v := nI 2) hx hb dL_isDone_707 (by decide) ?_
    refine lv_dup2_11 hx hb dL_isDone_708 rfl rfl ?_
    refine y_ald X h (fun _ => rfl) (by decide) (hL (45, 0, 0, 0) ⟨by decide, rfl, rfl, rfl⟩) (by omega) (v := nI m) ((congrFun ((sset_ne _ _ (nek (by decide))).trans ((sset_ne _ _ (nek (by decide))).trans (DM_see (by decide)))) 2).trans (gc_2.trans hN.2.2)) dL_isDone_709 ?_
    refine lv_iconst (v := nI 1) hx hb dL_isDone_710 (by decide) ?_
    refine n_iadd hx hb dL_isDone_711 ?_
    refine y_ast X h (fun _ => rfl) (by decide) (hL (45, 0, 0, 0) ⟨by decide, rfl, rfl, rfl⟩) (by omega) dL_isDone_712 (fun H locs h => ?_)
    refine lv_aload hx hb dL_isDone_713 (lv_at hl 21 rfl) ?_
    refine lv_iconst (v := nI 3) hx hb dL_isDone_715 (by decide) ?_
    refine lv_iload hx hb dL_isDone_716 (lv_at hl 5 rfl) ?_
    refine n_iadd hx hb dL_isDone_718 ?_
    refine lv_dup2_11 hx hb dL_isDone_719 rfl rfl ?_
    refine y_ald X h (fun _ => rfl) (by decide) (hL (45, 0, 0, 0) ⟨by decide, rfl, rfl, rfl⟩) (by omega) (v := nI (ac dv)) ((congrFun (sset_eq _ _ _) _).trans ((ud_ne _ _ (by omega)).trans ((congrFun ((sset_ne _ _ (nek (by decide))).trans ((sset_ne _ _ (nek (by decide))).trans (DM_see (by decide)))) _).trans (gc_3.trans (hS.1.1.gl.aJ dv (by omega)))))) dL_isDone_720 ?_
    refine lv_iconst (v := nI 1) hx hb dL_isDone_721 (by decide) ?_
    refine n_iadd hx hb dL_isDone_722 ?_
    refine y_ast X h (fun _ => rfl) (by decide) (hL (45, 0, 0, 0) ⟨by decide, rfl, rfl, rfl⟩) (by omega) dL_isDone_723 (fun H locs h => ?_)
    have h := h.law hW (del_LAe hd (hR9.gl.aJ dv hd) hN.2.1)
    refine lv_aload_n hx hb dL_isDone_724 rfl (lv_at hl 10 rfl) ?_
    refine lv_iconst (v := nI 2) hx hb dL_isDone_725 (by decide) ?_
    refine lv_iload hx hb dL_isDone_726 (lv_at hl 5 rfl) ?_
    refine lv_iload hx hb dL_isDone_728 (lv_at hl 4 rfl) ?_
    refine lv_iconst (v := nI 0) hx hb dL_isDone_730 (by decide) ?_
    refine lv_iconst (v := nI 0) hx hb dL_isDone_731 (by decide) ?_
    refine g_doneI X h (x_runSH (n := 6) X h ((w_does_delete_ok (LL (mdlM Z dv en m)) hL (lv := 10) (by decide) (nI dv) (nI en) (nI 0) (nI 0) (m_X6_delete (LL (mdlM Z dv en m)) hL hW hG2 n mcs (lb_bk hS.1 hG) (fun e2 _ => by have q := li_mc hS.1 (show cn ≤ 512 by omega) e2; omega) z (lb_z hS.1 hG) hz6 dv en hd hk (by rw [lb_see hG (by show 9 < 30; decide)]; rw [← lb_see (G := Z) (I := Z) (fun _ _ => rfl) (k := (9, 0, en, dv)) (by show 9 < 30; decide)]; exact hkn) (by rw [hRG.gl.ow en (by omega)]; exact how) (by rw [rl_sto hRG (by omega) hd]; exact hst1))) _) q378 q5 q376 q377 ⟨by decide, by decide, by decide +kernel⟩ rfl (Nat.le_trans (by decide) hR1) (Nat.le_trans (by decide) hR2) ⟨by rw [if_neg hnm]; omega, by rw [if_neg hnm]; omega⟩ hl.1 (Nat.le_of_ble_eq_true rfl) dL_isDone_732 rfl) (fun r9 u9 H locs hP h => ?_)
    obtain ⟨ad1, Ks1, st1⟩ := u9
    obtain ⟨hr9, gm1, v7, q1, q2, q3, q4, q5, q6, q7⟩ := hP
    rw [hr9, show cvA (LL (mdlM Z dv en m) (10, 0, en, dv)) = cnA Z dv en 4 from rl_cnA (hRG.cp en dv (by omega) hd)]
    have q4 : ∀ k, k ∈ Ks1 → st1 k = lay tc ad1 gm1 dz (sset (addM (nxtM (jwM (LL (mdlM Z dv en m)) z (nI 2) (nI dv) (nI en) (nI 0) (nI 0)) 0 dv) 0 en dv (mcs en) (LL (mdlM Z dv en m) (1, 0, 0, 0) 0)) (7, 0, en, 0) v7) k := q4
    have h : Sx D A ad1 Ks1 (lay tc ad1 gm1 dz (sset (addM (nxtM (jwM (LL (mdlM Z dv en m)) z (nI 2) (nI dv) (nI en) (nI 0) (nI 0)) 0 dv) 0 en dv (mcs en) (LL (mdlM Z dv en m) (1, 0, 0, 0) 0)) (7, 0, en, 0) v7)) s H locs := h.congr q4
    have q2 : (gm1 0 en).1 = max (gm 0 en).1 (mcs en + 1) := q2
    obtain ⟨hT9, hRb⟩ := st_delete hS hcn hd hk hm (gm' := gm1) (v7 := v7) (fun e2 => by
      by_cases q : e2 = en
      · subst q; rw [q2, mup_eq]; omega
      · rw [q1 0 e2 (fun w => q w.2), mup_ne q, hg0]) (fun e2 => by rw [q1 1 e2 (fun q => absurd q.1 (by decide))]) rfl
    rw [hRb] at h
    have hAE : AEq ad ad1 := aeq_of hL q7
    refine W.widen (k := cells + 5) (n := slots + 63) (by rw [if_neg hnm]; exact Nat.le_refl _) (by rw [if_neg hnm]; omega) ?_
    refine lv_iload hx hb dL_isDone_735 (lv_at hl 1 rfl) ?_
    refine n_icmp_ne (tgt := 744) hx hb (by omega) (by omega) dL_isDone_737 (by decide) (fun c => absurd rfl c) (fun _ => ?_)
    refine lv_iconst (v := nI 1) hx hb dL_isDone_740 (by decide) ?_
    refine lv_goto (tgt := 745) hx hb dL_isDone_741 (by decide) ?_
    exact kk _ _ _ _ H locs ls ⟨q5, q6, q3, hT9⟩ hAE h
  · skip
    refine lv_aload hx hb dL_isDone_647 (lv_at hl 18 rfl) ?_
    refine lv_iconst (v := nI 4) hx hb dL_isDone_649 (by decide) ?_
    refine lv_aload hx hb dL_isDone_650 (lv_at hl 21 rfl) ?_
    refine lv_iconst (v := nI 2) hx hb dL_isDone_652 (by decide) ?_
    refine y_ald X h (fun _ => rfl) (by decide) (hL (45, 0, 0, 0) ⟨by decide, rfl, rfl, rfl⟩) (by omega) (v := nI m) ((congrFun (DM_see (by decide)) 2).trans (gc_2.trans hN.2.2)) dL_isDone_653 ?_
    refine n_imul hx hb dL_isDone_654 ?_
    refine lv_iload hx hb dL_isDone_655 (lv_at hl 0 rfl) ?_
    refine n_iadd hx hb dL_isDone_657 ?_
    refine lv_aload hx hb dL_isDone_658 (lv_at hl 14 rfl) ?_
    refine lv_iload hx hb dL_isDone_660 (lv_at hl 5 rfl) ?_
    refine lv_iload hx hb dL_isDone_662 (lv_at hl 4 rfl) ?_
    refine lv_iload hx hb dL_isDone_664 (lv_at hl 0 rfl) ?_
    refine x_doneI X h (x_runS X h (m_L_at (DM Z dv en m f) dv en f _) F_L_at q744 q745 rfl (Nat.le_trans (by decide) hR1) (Nat.le_trans (by decide) hR2) ⟨by omega, by omega⟩ hl.1 (Nat.le_of_ble_eq_true rfl) dL_isDone_666 rfl) (fun H locs h => ?_)
    refine z_lald X h pkB (fun _ => rfl) (by decide) (hL (37, 0, 0, 0) ⟨by decide, rfl, rfl, rfl⟩) (by omega) (v := pk (rw6 (Z (37, 0, 0, 0)) (24 * (10 * dv + en) + 6 * f))) ((congrFun (congrArg pkB ((DM_see (by decide)).trans (LL_see (by decide)))) _).trans (pkB_at (by omega) (by omega))) dL_isDone_669 ?_
    refine z_last X h pkA (fun _ => rfl) (by decide) (hL (41, 0, 0, 0) ⟨by decide, rfl, rfl, rfl⟩) (by omega) (st6 ((DM Z dv en m f) (41, 0, 0, 0)) (24 * m + 6 * f) (rw6 (Z (37, 0, 0, 0)) (24 * (10 * dv + en) + 6 * f))) lastA dL_isDone_670 (fun H locs h => ?_)
    have h := h.eq (congrArg (lay tc ad gm dz) (show (sset (DM Z dv en m f) (41, 0, 0, 0) (st6 ((DM Z dv en m f) (41, 0, 0, 0)) (24 * m + 6 * f) (rw6 (Z (37, 0, 0, 0)) (24 * (10 * dv + en) + 6 * f)))) = (DM Z dv en m (f + 1)) from DM_s))
    refine n_iinc (j := f) (n := 1) (lv' := [(21, .int (nI (f + 1))), (20, .int (nI (cnA Z dv en 4))), (19, .int (bI true)), (18, .int (bI true)), (17, .int (nI en)), (16, .int (nI dv)), (15, .int (nI three)), (14, .int (nI two)), (13, .int (nI one)), (12, .int (nI what)), (0, .ref (ad (0, 0, 0, 0))), (1, .ref b), (2, .int (nI at9)), (3, .ref (ad (35, 0, 0, 0))), (4, .ref (ad (37, 0, 0, 0))), (5, .ref (ad (39, 0, 0, 0))), (6, .ref (ad (43, 0, 0, 0))), (7, .ref (ad (44, 0, 0, 0))), (8, .ref (ad (41, 0, 0, 0))), (9, .ref (ad (42, 0, 0, 0))), (10, .ref (ad (40, 0, 0, 0))), (11, .ref (ad (45, 0, 0, 0)))]) hx hb dL_isDone_671 hl (k := 0) rfl (by decide) (by decide) rfl (fun ls hl => ?_)
    refine lv_goto (tgt := 641) hx hb dL_isDone_674 (by decide) ?_
    exact ih641 (f + 1) (by omega) (by omega) H locs ls (h.eq (congrArg (lay tc ad gm dz) rfl)) (lv_sub hl [0, 1, 2, 3, 4, 5, 6, 7, 8, 9, 10, 11, 12, 13, 14, 15, 16, 17, 18, 19, 20, 21] rfl)

set_option maxHeartbeats 4000000 in
set_option maxRecDepth 100000 in
theorem da_shr (X : Cx p s mth args meth c cL_isDone yL_isDone.cls 26 D tc dz A) (hR1 : 14 ≤ R.frames) (hR2 : 462 ≤ R.locals) (hcR : cells + 0 ≤ R.cells) (hsR : slots + 0 ≤ R.slots) (hL : LV gm Ks) (hst : l.stackTraces = false) (hW : LW gm Ks) (hG2 : GM2 gm) (Z : Mem) (V : Nat → BS) (acts : Nat → Act) (z n m t : Nat) (ac mcs : Nat → Nat) (cn : Nat) (hS : LWS Z gm V acts z n m t ac mcs cn) (hcn : cn < 58) (b at9 : Nat) (what one two three : Nat) (h40 : what < 40) (h60 : one < 6000) (h70 : two < 7000) (h80 : three < 8000) (dv en : Nat) (hdv : dv ≤ 6) (hen : en ≤ 2) (pn st9 : Nat) (hpn : pn < 3) (hst9 : st9 < 16) (hd : dv < 6) (hk : en < n) (h34 : Z (34, 0, 0, 0) (10 * dv + en) = nI 1) (how : Z (32, 0, 0, 0) en = nI (dv / 2)) (hpd : ¬ pn = dv / 2) (h : Sx D A ad Ks (lay tc ad gm dz (LL Z)) s H locs) (hl : lv_has ls 26 [(20, .int (nI st9)), (19, .int (nI pn)), (18, .int (bI true)), (17, .int (nI en)), (16, .int (nI dv)), (15, .int (nI three)), (14, .int (nI two)), (13, .int (nI one)), (12, .int (nI what)), (0, .ref (ad (0, 0, 0, 0))), (1, .ref b), (2, .int (nI at9)), (3, .ref (ad (35, 0, 0, 0))), (4, .ref (ad (37, 0, 0, 0))), (5, .ref (ad (39, 0, 0, 0))), (6, .ref (ad (43, 0, 0, 0))), (7, .ref (ad (44, 0, 0, 0))), (8, .ref (ad (41, 0, 0, 0))), (9, .ref (ad (42, 0, 0, 0))), (10, .ref (ad (40, 0, 0, 0))), (11, .ref (ad (45, 0, 0, 0)))])
    (kk : ∀ (ad1 : KN → Nat) (Ks1 : List KN) (gm1 : GM) (Z1 : Mem) (H1 : Heap) (locs1 : List Loc) (ls1 : Array Slot), NY (cn + 1) gm1 Ks1 Z1 → AEq ad ad1 → Sx D A ad1 Ks1 (lay tc ad1 gm1 dz (LL Z1)) s H1 locs1 → W p l e R s mth args below meth c H1 locs1 cells slots Q (F0 mth 1060 ls1 [.int (bI true)])) : W p l e R s mth args below meth c H locs cells slots Q (F0 mth 796 ls []) := by
  have hok := hS.2.1
  have hn2 := hS.2.2.1
  have hm10 := hS.2.2.2
  have hN := nr_of hS.1.1
  have ht9 : t ≤ 2000 := by have := hS.1.2.2.2.2.2.2.2.2.2.1; omega
  have hBK := lb_bk (G := Z) hS.1 (fun _ _ => rfl)
  have hR9 := lb_rel0 (G := Z) hS.1.1 (fun _ _ => rfl)
  have hz6 : z < 512 := by have := hS.1.2.2.2.2.2.2.2.1; omega
  have hC := hR9.cp en dv (by omega) hd
  have hkn := ck_yes hC h34
  have how9 : LL Z (4, 0, en, 0) 0 = Z (32, 0, 0, 0) en := hR9.gl.ow en (by omega)
  have hin9 := share_in hst9
  have hG : ∀ k : KN, k.1 < 30 → (mshM Z en pn (nI st9)) k = Z k := fun k hk => msh_lo hk
  have hRG := lb_rel0 (G := (mshM Z en pn (nI st9))) hS.1.1 hG
  obtain ⟨hT9, hRb⟩ := st_share hS hk hpn hst9
  obtain ⟨hx, hb, hmaxL, hown, hts⟩ := id X.1
  refine lv_iload hx hb dL_isDone_796 (lv_at hl 2 rfl) ?_
  refine b_if_eq (tgt := 841) hx hb dL_isDone_798 (by decide) (fun c => (Bool.noConfusion c)) (fun _ => ?_)
  refine lv_iload hx hb dL_isDone_801 (lv_at hl 1 rfl) ?_
  refine lv_iconst (v := nI 3) hx hb dL_isDone_803 (by decide) ?_
  refine n_icmp_ge (tgt := 841) hx hb (by omega) (by omega) dL_isDone_804 (by decide) (fun c => absurd hpn (by omega)) (fun _ => ?_)
  refine lv_iload hx hb dL_isDone_807 (lv_at hl 0 rfl) ?_
  refine lv_bipush (v := nI 16) hx hb dL_isDone_809 (by decide) ?_
  refine n_icmp_ge (tgt := 841) hx hb (by omega) (by omega) dL_isDone_811 (by decide) (fun c => absurd hst9 (by omega)) (fun _ => ?_)
  refine lv_aload hx hb dL_isDone_814 (lv_at hl 16 rfl) ?_
  refine lv_iconst (v := nI 4) hx hb dL_isDone_816 (by decide) ?_
  refine lv_iload hx hb dL_isDone_817 (lv_at hl 3 rfl) ?_
  refine n_imul hx hb dL_isDone_819 ?_
  refine y_ald X h (fun _ => rfl) (by decide) (hL (44, 0, 0, 0) ⟨by decide, rfl, rfl, rfl⟩) (by omega) (v := Z (32, 0, 0, 0) en) wc_o dL_isDone_820 ?_
  refine lv_iload hx hb dL_isDone_821 (lv_at hl 4 rfl) ?_
  refine lv_iconst (v := nI 2) hx hb dL_isDone_823 (by decide) ?_
  refine n_idiv hx hb (by omega) (by omega) (by omega) dL_isDone_824 ?_
  refine lv_icmp_ne (tgt := 841) hx hb dL_isDone_825 (by decide) (fun c => absurd how c) (fun _ => ?_)
  refine lv_iload hx hb dL_isDone_828 (lv_at hl 1 rfl) ?_
  refine lv_iload hx hb dL_isDone_830 (lv_at hl 4 rfl) ?_
  refine lv_iconst (v := nI 2) hx hb dL_isDone_832 (by decide) ?_
  refine n_idiv hx hb (by omega) (by omega) (by omega) dL_isDone_833 ?_
  refine n_icmp_eq (tgt := 841) hx hb (by omega) (by omega) dL_isDone_834 (by decide) (fun c => absurd c hpd) (fun _ => ?_)
  refine lv_iconst (v := nI 1) hx hb dL_isDone_837 (by decide) ?_
  refine lv_goto (tgt := 842) hx hb dL_isDone_838 (by decide) ?_
  rw [show nI 1 = bI true from rfl]
  refine lv_istore (lv' := [(21, .int (bI true)), (20, .int (nI st9)), (19, .int (nI pn)), (18, .int (bI true)), (17, .int (nI en)), (16, .int (nI dv)), (15, .int (nI three)), (14, .int (nI two)), (13, .int (nI one)), (12, .int (nI what)), (0, .ref (ad (0, 0, 0, 0))), (1, .ref b), (2, .int (nI at9)), (3, .ref (ad (35, 0, 0, 0))), (4, .ref (ad (37, 0, 0, 0))), (5, .ref (ad (39, 0, 0, 0))), (6, .ref (ad (43, 0, 0, 0))), (7, .ref (ad (44, 0, 0, 0))), (8, .ref (ad (41, 0, 0, 0))), (9, .ref (ad (42, 0, 0, 0))), (10, .ref (ad (40, 0, 0, 0))), (11, .ref (ad (45, 0, 0, 0)))]) hx hb dL_isDone_842 hl (by decide) rfl (fun ls hl => ?_)
  refine lv_iload hx hb dL_isDone_844 (lv_at hl 3 rfl) ?_
  refine b_if_eq (tgt := 855) hx hb dL_isDone_846 (by decide) (fun c => (Bool.noConfusion c)) (fun _ => ?_)
  refine lv_iload hx hb dL_isDone_849 (lv_at hl 2 rfl) ?_
  refine lv_iconst (v := nI 3) hx hb dL_isDone_851 (by decide) ?_
  refine n_icmp_ne (tgt := 861) hx hb (by omega) (by omega) dL_isDone_852 (by decide) (fun _ => ?_) (fun c => absurd hpn (by omega))
  refine lv_iload hx hb dL_isDone_861 (lv_at hl 1 rfl) ?_
  refine lv_bipush (v := nI 16) hx hb dL_isDone_863 (by decide) ?_
  refine n_icmp_ne (tgt := 874) hx hb (by omega) (by omega) dL_isDone_865 (by decide) (fun _ => ?_) (fun c => absurd hst9 (by omega))
  refine lv_iload hx hb dL_isDone_874 (lv_at hl 0 rfl) ?_
  refine b_if_eq (tgt := 894) hx hb dL_isDone_876 (by decide) (fun c => (Bool.noConfusion c)) (fun _ => ?_)
  refine lv_aload hx hb dL_isDone_879 (lv_at hl 17 rfl) ?_
  refine lv_iconst (v := nI 4) hx hb dL_isDone_881 (by decide) ?_
  refine lv_iload hx hb dL_isDone_882 (lv_at hl 4 rfl) ?_
  refine n_imul hx hb dL_isDone_884 ?_
  refine lv_iconst (v := nI 1) hx hb dL_isDone_885 (by decide) ?_
  refine n_iadd hx hb dL_isDone_886 ?_
  refine lv_iload hx hb dL_isDone_887 (lv_at hl 2 rfl) ?_
  refine n_iadd hx hb dL_isDone_889 ?_
  refine y_ald X h (fun _ => rfl) (by decide) (hL (44, 0, 0, 0) ⟨by decide, rfl, rfl, rfl⟩) (by omega) (v := Z (33, 0, 0, 0) (3 * en + pn)) (wc_s hpn) dL_isDone_890 ?_
  refine lv_goto (tgt := 896) hx hb dL_isDone_891 (by decide) ?_
  refine lv_istore (lv' := [(22, .int (Z (33, 0, 0, 0) (3 * en + pn))), (21, .int (bI true)), (20, .int (nI st9)), (19, .int (nI pn)), (18, .int (bI true)), (17, .int (nI en)), (16, .int (nI dv)), (15, .int (nI three)), (14, .int (nI two)), (13, .int (nI one)), (12, .int (nI what)), (0, .ref (ad (0, 0, 0, 0))), (1, .ref b), (2, .int (nI at9)), (3, .ref (ad (35, 0, 0, 0))), (4, .ref (ad (37, 0, 0, 0))), (5, .ref (ad (39, 0, 0, 0))), (6, .ref (ad (43, 0, 0, 0))), (7, .ref (ad (44, 0, 0, 0))), (8, .ref (ad (41, 0, 0, 0))), (9, .ref (ad (42, 0, 0, 0))), (10, .ref (ad (40, 0, 0, 0))), (11, .ref (ad (45, 0, 0, 0)))]) hx hb dL_isDone_896 hl (by decide) rfl (fun ls hl => ?_)
  refine lv_iload hx hb dL_isDone_898 (lv_at hl 1 rfl) ?_
  refine b_if_eq (tgt := 1037) hx hb dL_isDone_900 (by decide) (fun c => (Bool.noConfusion c)) (fun _ => ?_)
  refine lv_aload hx hb dL_isDone_903 (lv_at hl 18 rfl) ?_
  refine lv_iconst (v := nI 4) hx hb dL_isDone_905 (by decide) ?_
  refine lv_iload hx hb dL_isDone_906 (lv_at hl 5 rfl) ?_
  refine n_imul hx hb dL_isDone_908 ?_
  refine lv_iconst (v := nI 1) hx hb dL_isDone_909 (by decide) ?_
  refine n_iadd hx hb dL_isDone_910 ?_
  refine lv_iload hx hb dL_isDone_911 (lv_at hl 3 rfl) ?_
  refine n_iadd hx hb dL_isDone_913 ?_
  refine lv_iload hx hb dL_isDone_914 (lv_at hl 2 rfl) ?_
  refine y_ast X h (fun _ => rfl) (by decide) (hL (44, 0, 0, 0) ⟨by decide, rfl, rfl, rfl⟩) (by omega) dL_isDone_916 (fun H locs h => ?_)
  refine lv_iconst (v := nI 0) hx hb dL_isDone_917 (by decide) ?_
  refine lv_istore (lv' := [(23, .int (nI 0)), (22, .int (Z (33, 0, 0, 0) (3 * en + pn))), (21, .int (bI true)), (20, .int (nI st9)), (19, .int (nI pn)), (18, .int (bI true)), (17, .int (nI en)), (16, .int (nI dv)), (15, .int (nI three)), (14, .int (nI two)), (13, .int (nI one)), (12, .int (nI what)), (0, .ref (ad (0, 0, 0, 0))), (1, .ref b), (2, .int (nI at9)), (3, .ref (ad (35, 0, 0, 0))), (4, .ref (ad (37, 0, 0, 0))), (5, .ref (ad (39, 0, 0, 0))), (6, .ref (ad (43, 0, 0, 0))), (7, .ref (ad (44, 0, 0, 0))), (8, .ref (ad (41, 0, 0, 0))), (9, .ref (ad (42, 0, 0, 0))), (10, .ref (ad (40, 0, 0, 0))), (11, .ref (ad (45, 0, 0, 0)))]) hx hb dL_isDone_918 hl (by decide) rfl (fun ls hl => ?_)
  refine y_loop (D := D) (A := A) (ad := ad) (Ks := Ks) (nL := 26) (fun f : Nat => lay tc ad gm dz (ShM Z en pn st9 f 0)) (fun f => [(23, .int (nI f)), (22, .int (Z (33, 0, 0, 0) (3 * en + pn))), (21, .int (bI true)), (20, .int (nI st9)), (19, .int (nI pn)), (18, .int (bI true)), (17, .int (nI en)), (16, .int (nI dv)), (15, .int (nI three)), (14, .int (nI two)), (13, .int (nI one)), (12, .int (nI what)), (0, .ref (ad (0, 0, 0, 0))), (1, .ref b), (2, .int (nI at9)), (3, .ref (ad (35, 0, 0, 0))), (4, .ref (ad (37, 0, 0, 0))), (5, .ref (ad (39, 0, 0, 0))), (6, .ref (ad (43, 0, 0, 0))), (7, .ref (ad (44, 0, 0, 0))), (8, .ref (ad (41, 0, 0, 0))), (9, .ref (ad (42, 0, 0, 0))), (10, .ref (ad (40, 0, 0, 0))), (11, .ref (ad (45, 0, 0, 0)))]) (fun _ => []) (fun f : Nat => f ≤ 4) (fun f => 4 - f) (fun f hi920 ih920 H locs ls h hl => ?_) 0 (Nat.zero_le _) (h.eq (congrArg (lay tc ad gm dz) (ShM_0 Z en pn st9))) (lv_sub hl [0, 1, 2, 3, 4, 5, 6, 7, 8, 9, 10, 11, 12, 13, 14, 15, 16, 17, 18, 19, 20, 21, 22, 23] rfl) rfl
  have h : Sx D A ad Ks (lay tc ad gm dz (ShM Z en pn st9 f 0)) s H locs := h
  have hl : lv_has ls 26 [(23, .int (nI f)), (22, .int (Z (33, 0, 0, 0) (3 * en + pn))), (21, .int (bI true)), (20, .int (nI st9)), (19, .int (nI pn)), (18, .int (bI true)), (17, .int (nI en)), (16, .int (nI dv)), (15, .int (nI three)), (14, .int (nI two)), (13, .int (nI one)), (12, .int (nI what)), (0, .ref (ad (0, 0, 0, 0))), (1, .ref b), (2, .int (nI at9)), (3, .ref (ad (35, 0, 0, 0))), (4, .ref (ad (37, 0, 0, 0))), (5, .ref (ad (39, 0, 0, 0))), (6, .ref (ad (43, 0, 0, 0))), (7, .ref (ad (44, 0, 0, 0))), (8, .ref (ad (41, 0, 0, 0))), (9, .ref (ad (42, 0, 0, 0))), (10, .ref (ad (40, 0, 0, 0))), (11, .ref (ad (45, 0, 0, 0)))] := hl
  refine lv_iload hx hb dL_isDone_920 (lv_at hl 0 rfl) ?_
  refine lv_iconst (v := nI 4) hx hb dL_isDone_922 (by decide) ?_
  refine n_icmp_ge (tgt := 1037) hx hb (by omega) (by omega) dL_isDone_923 (by decide) (fun c_923 => ?_) (fun c_923 => ?_)
  · skip
    have him : f = 4 := by omega
    rw [him] at h
    have h := h.law hW (shr_LAe (by omega) hpn)
    refine lv_aload_n hx hb dL_isDone_1037 rfl (lv_at hl 12 rfl) ?_
    refine lv_iconst (v := nI 3) hx hb dL_isDone_1038 (by decide) ?_
    refine lv_iload hx hb dL_isDone_1039 (lv_at hl 7 rfl) ?_
    refine lv_iload hx hb dL_isDone_1041 (lv_at hl 6 rfl) ?_
    refine lv_iload hx hb dL_isDone_1043 (lv_at hl 4 rfl) ?_
    refine lv_iload hx hb dL_isDone_1045 (lv_at hl 3 rfl) ?_
    refine x_doneI X h (x_runSH (n := 6) X h (w_does_share_ok (LL (mshM Z en pn (nI st9))) hL (lv := 9) (by decide) (nI dv) (nI en) (nI pn) (nI st9) (m_X6_share (LL (mshM Z en pn (nI st9))) hL hG2.ok n mcs (lb_bk hS.1 hG) z (lb_z hS.1 hG) hz6 dv en pn hd hk hpn (by rw [lb_see hG (by show 9 < 30; decide)]; rw [← lb_see (G := Z) (I := Z) (fun _ _ => rfl) (k := (9, 0, en, dv)) (by show 9 < 30; decide)]; exact hkn) (nI st9) hin9 (by rw [hRG.gl.ow en (by omega)]; exact how) (by rw [hRG.gl.ow en (by omega), how]; exact fun w => hpd (nI_inj (by omega) (by omega) w))) _) q378 q5 q376 q377 ⟨by decide, by decide, by decide +kernel⟩ rfl (Nat.le_trans (by decide) hR1) (Nat.le_trans (by decide) hR2) ⟨by omega, by omega⟩ hl.1 (Nat.le_of_ble_eq_true rfl) dL_isDone_1047 rfl) (fun H locs h => ?_)
    rw [show LL (mshM Z en pn (nI st9)) (5, 0, en, 0) pn = Z (33, 0, 0, 0) (3 * en + pn) from hRG.gl.sh en pn (by omega) hpn]
    refine lv_iload hx hb dL_isDone_1050 (lv_at hl 1 rfl) ?_
    refine lv_icmp_ne (tgt := 1059) hx hb dL_isDone_1052 (by decide) (fun c => absurd rfl c) (fun _ => ?_)
    refine lv_iconst (v := nI 1) hx hb dL_isDone_1055 (by decide) ?_
    refine lv_goto (tgt := 1060) hx hb dL_isDone_1056 (by decide) ?_
    rw [hRb] at h
    exact kk ad Ks gm _ H locs ls ⟨hL, hW, hG2, hT9⟩ (AEq.refl ad) h
  · skip
    refine lv_iconst (v := nI 2) hx hb dL_isDone_926 (by decide) ?_
    refine lv_iload hx hb dL_isDone_927 (lv_at hl 4 rfl) ?_
    refine n_imul hx hb dL_isDone_929 ?_
    refine lv_istore (lv' := [(24, .int (nI (2 * pn))), (23, .int (nI f)), (22, .int (Z (33, 0, 0, 0) (3 * en + pn))), (21, .int (bI true)), (20, .int (nI st9)), (19, .int (nI pn)), (18, .int (bI true)), (17, .int (nI en)), (16, .int (nI dv)), (15, .int (nI three)), (14, .int (nI two)), (13, .int (nI one)), (12, .int (nI what)), (0, .ref (ad (0, 0, 0, 0))), (1, .ref b), (2, .int (nI at9)), (3, .ref (ad (35, 0, 0, 0))), (4, .ref (ad (37, 0, 0, 0))), (5, .ref (ad (39, 0, 0, 0))), (6, .ref (ad (43, 0, 0, 0))), (7, .ref (ad (44, 0, 0, 0))), (8, .ref (ad (41, 0, 0, 0))), (9, .ref (ad (42, 0, 0, 0))), (10, .ref (ad (40, 0, 0, 0))), (11, .ref (ad (45, 0, 0, 0)))]) hx hb dL_isDone_930 hl (by decide) rfl (fun ls hl => ?_)
    refine y_loop (D := D) (A := A) (ad := ad) (Ks := Ks) (nL := 26) (fun i : Nat => lay tc ad gm dz (ShM Z en pn st9 f i)) (fun i => [(24, .int (nI (2 * pn + i))), (23, .int (nI f)), (22, .int (Z (33, 0, 0, 0) (3 * en + pn))), (21, .int (bI true)), (20, .int (nI st9)), (19, .int (nI pn)), (18, .int (bI true)), (17, .int (nI en)), (16, .int (nI dv)), (15, .int (nI three)), (14, .int (nI two)), (13, .int (nI one)), (12, .int (nI what)), (0, .ref (ad (0, 0, 0, 0))), (1, .ref b), (2, .int (nI at9)), (3, .ref (ad (35, 0, 0, 0))), (4, .ref (ad (37, 0, 0, 0))), (5, .ref (ad (39, 0, 0, 0))), (6, .ref (ad (43, 0, 0, 0))), (7, .ref (ad (44, 0, 0, 0))), (8, .ref (ad (41, 0, 0, 0))), (9, .ref (ad (42, 0, 0, 0))), (10, .ref (ad (40, 0, 0, 0))), (11, .ref (ad (45, 0, 0, 0)))]) (fun _ => []) (fun i : Nat => i ≤ 2) (fun i => 2 - i) (fun i hi932 ih932 H locs ls h hl => ?_) 0 (Nat.zero_le _) (h.eq (congrArg (lay tc ad gm dz) rfl)) (lv_sub hl [0, 1, 2, 3, 4, 5, 6, 7, 8, 9, 10, 11, 12, 13, 14, 15, 16, 17, 18, 19, 20, 21, 22, 23, 24] rfl) rfl
    have h : Sx D A ad Ks (lay tc ad gm dz (ShM Z en pn st9 f i)) s H locs := h
    have hl : lv_has ls 26 [(24, .int (nI (2 * pn + i))), (23, .int (nI f)), (22, .int (Z (33, 0, 0, 0) (3 * en + pn))), (21, .int (bI true)), (20, .int (nI st9)), (19, .int (nI pn)), (18, .int (bI true)), (17, .int (nI en)), (16, .int (nI dv)), (15, .int (nI three)), (14, .int (nI two)), (13, .int (nI one)), (12, .int (nI what)), (0, .ref (ad (0, 0, 0, 0))), (1, .ref b), (2, .int (nI at9)), (3, .ref (ad (35, 0, 0, 0))), (4, .ref (ad (37, 0, 0, 0))), (5, .ref (ad (39, 0, 0, 0))), (6, .ref (ad (43, 0, 0, 0))), (7, .ref (ad (44, 0, 0, 0))), (8, .ref (ad (41, 0, 0, 0))), (9, .ref (ad (42, 0, 0, 0))), (10, .ref (ad (40, 0, 0, 0))), (11, .ref (ad (45, 0, 0, 0)))] := hl
    refine lv_iload hx hb dL_isDone_932 (lv_at hl 0 rfl) ?_
    refine lv_iconst (v := nI 2) hx hb dL_isDone_934 (by decide) ?_
    refine lv_iload hx hb dL_isDone_935 (lv_at hl 5 rfl) ?_
    refine n_imul hx hb dL_isDone_937 ?_
    refine lv_iconst (v := nI 2) hx hb dL_isDone_938 (by decide) ?_
    refine n_iadd hx hb dL_isDone_939 ?_
    refine n_icmp_ge (tgt := 1031) hx hb (by omega) (by omega) dL_isDone_940 (by decide) (fun c_940 => ?_) (fun c_940 => ?_)
    · skip
      have him : i = 2 := by omega
      rw [him] at h
      refine n_iinc (j := f) (n := 1) (lv' := [(23, .int (nI (f + 1))), (24, .int (nI (2 * pn + i))), (22, .int (Z (33, 0, 0, 0) (3 * en + pn))), (21, .int (bI true)), (20, .int (nI st9)), (19, .int (nI pn)), (18, .int (bI true)), (17, .int (nI en)), (16, .int (nI dv)), (15, .int (nI three)), (14, .int (nI two)), (13, .int (nI one)), (12, .int (nI what)), (0, .ref (ad (0, 0, 0, 0))), (1, .ref b), (2, .int (nI at9)), (3, .ref (ad (35, 0, 0, 0))), (4, .ref (ad (37, 0, 0, 0))), (5, .ref (ad (39, 0, 0, 0))), (6, .ref (ad (43, 0, 0, 0))), (7, .ref (ad (44, 0, 0, 0))), (8, .ref (ad (41, 0, 0, 0))), (9, .ref (ad (42, 0, 0, 0))), (10, .ref (ad (40, 0, 0, 0))), (11, .ref (ad (45, 0, 0, 0)))]) hx hb dL_isDone_1031 hl (k := 1) rfl (by decide) (by decide) rfl (fun ls hl => ?_)
      refine lv_goto (tgt := 920) hx hb dL_isDone_1034 (by decide) ?_
      exact ih920 (f + 1) (by omega) (by omega) H locs ls (h.eq (congrArg (lay tc ad gm dz) ShM_n)) (lv_sub hl [0, 2, 3, 4, 5, 6, 7, 8, 9, 10, 11, 12, 13, 14, 15, 16, 17, 18, 19, 20, 21, 22, 23, 24] rfl)
    · skip
      refine lv_iload hx hb dL_isDone_943 (lv_at hl 4 rfl) ?_
      refine lv_iload hx hb dL_isDone_945 (lv_at hl 1 rfl) ?_
      refine lv_ishr hx hb dL_isDone_947 ?_
      refine lv_iconst (v := nI 1) hx hb dL_isDone_948 (by decide) ?_
      refine lv_iand hx hb dL_isDone_949 ?_
      refine lv_iconst (v := nI 1) hx hb dL_isDone_950 (by decide) ?_
      refine lv_icmp_ne (tgt := 958) hx hb dL_isDone_951 (by decide) (fun c_951 => ?_) (fun c_951 => ?_)
      · skip
        have hq : bit (nI st9) f = false := bit_f c_951
        refine lv_iconst (v := nI 0) hx hb dL_isDone_958 (by decide) ?_
        rw [lb_f hq]
        refine lv_istore (lv' := [(25, .int (bI (bit (nI st9) f))), (24, .int (nI (2 * pn + i))), (23, .int (nI f)), (22, .int (Z (33, 0, 0, 0) (3 * en + pn))), (21, .int (bI true)), (20, .int (nI st9)), (19, .int (nI pn)), (18, .int (bI true)), (17, .int (nI en)), (16, .int (nI dv)), (15, .int (nI three)), (14, .int (nI two)), (13, .int (nI one)), (12, .int (nI what)), (0, .ref (ad (0, 0, 0, 0))), (1, .ref b), (2, .int (nI at9)), (3, .ref (ad (35, 0, 0, 0))), (4, .ref (ad (37, 0, 0, 0))), (5, .ref (ad (39, 0, 0, 0))), (6, .ref (ad (43, 0, 0, 0))), (7, .ref (ad (44, 0, 0, 0))), (8, .ref (ad (41, 0, 0, 0))), (9, .ref (ad (42, 0, 0, 0))), (10, .ref (ad (40, 0, 0, 0))), (11, .ref (ad (45, 0, 0, 0)))]) hx hb dL_isDone_959 hl (by decide) rfl (fun ls hl => ?_)
        refine lv_aload_n hx hb dL_isDone_961 rfl (lv_at hl 17 rfl) ?_
        refine lv_iload hx hb dL_isDone_962 (lv_at hl 1 rfl) ?_
        refine lv_iload hx hb dL_isDone_964 (lv_at hl 8 rfl) ?_
        refine lv_iload hx hb dL_isDone_966 (lv_at hl 2 rfl) ?_
        refine x_doneI X h (x_runS X h (m_L_at (ShM Z en pn st9 f i) (2 * pn + i) en f _) F_L_at q744 q745 rfl (Nat.le_trans (by decide) hR1) (Nat.le_trans (by decide) hR2) ⟨by omega, by omega⟩ hl.1 (Nat.le_of_ble_eq_true rfl) dL_isDone_968 rfl) (fun H locs h => ?_)
        refine lv_iload hx hb dL_isDone_971 (lv_at hl 0 rfl) ?_
        refine b_if_eq (tgt := 990) hx hb dL_isDone_973 (by decide) (fun _ => ?_) (fun c => by rw [hq] at c; cases c)
        refine lv_lconst (v := pk z0) hx hb dL_isDone_990 lp_zero.symm ?_
        refine z_last X h pkB (fun _ => rfl) (by decide) (hL (35, 0, 0, 0) ⟨by decide, rfl, rfl, rfl⟩) (by omega) (st6 ((ShM Z en pn st9 f i) (35, 0, 0, 0)) (24 * (10 * (2 * pn + i) + en) + 6 * f) z0) (lastB (by omega) (by omega)) dL_isDone_991 (fun H locs h => ?_)
        refine lv_aload hx hb dL_isDone_992 (lv_at hl 18 rfl) ?_
        refine lv_iload hx hb dL_isDone_994 (lv_at hl 1 rfl) ?_
        refine lv_iload hx hb dL_isDone_996 (lv_at hl 8 rfl) ?_
        refine lv_iload hx hb dL_isDone_998 (lv_at hl 2 rfl) ?_
        refine x_doneI X h (x_runS X h (m_L_at (sset (ShM Z en pn st9 f i) (35, 0, 0, 0) (st6 ((ShM Z en pn st9 f i) (35, 0, 0, 0)) (24 * (10 * (2 * pn + i) + en) + 6 * f) z0)) (2 * pn + i) en f _) F_L_at q744 q745 rfl (Nat.le_trans (by decide) hR1) (Nat.le_trans (by decide) hR2) ⟨by omega, by omega⟩ hl.1 (Nat.le_of_ble_eq_true rfl) dL_isDone_1000 rfl) (fun H locs h => ?_)
        refine lv_iload hx hb dL_isDone_1003 (lv_at hl 0 rfl) ?_
        refine b_if_eq (tgt := 1023) hx hb dL_isDone_1005 (by decide) (fun _ => ?_) (fun c => by rw [hq] at c; cases c)
        refine lv_lconst (v := pk z0) hx hb dL_isDone_1023 lp_zero.symm ?_
        refine z_last X h pkB (fun _ => rfl) (by decide) (hL (37, 0, 0, 0) ⟨by decide, rfl, rfl, rfl⟩) (by omega) (st6 ((sset (ShM Z en pn st9 f i) (35, 0, 0, 0) (st6 ((ShM Z en pn st9 f i) (35, 0, 0, 0)) (24 * (10 * (2 * pn + i) + en) + 6 * f) z0)) (37, 0, 0, 0)) (24 * (10 * (2 * pn + i) + en) + 6 * f) z0) (lastB (by omega) (by omega)) dL_isDone_1024 (fun H locs h => ?_)
        have h := h.eq (congrArg (lay tc ad gm dz) (show (sset (sset (ShM Z en pn st9 f i) (35, 0, 0, 0) (st6 ((ShM Z en pn st9 f i) (35, 0, 0, 0)) (24 * (10 * (2 * pn + i) + en) + 6 * f) z0)) (37, 0, 0, 0) (st6 ((sset (ShM Z en pn st9 f i) (35, 0, 0, 0) (st6 ((ShM Z en pn st9 f i) (35, 0, 0, 0)) (24 * (10 * (2 * pn + i) + en) + 6 * f) z0)) (37, 0, 0, 0)) (24 * (10 * (2 * pn + i) + en) + 6 * f) z0)) = (ShM Z en pn st9 f (i + 1)) from (ShM_s (by omega) (by omega) (by omega) (fun k hk => (if_neg (fun w => by rw [hq] at w; cases w)).symm) (fun k hk => (if_neg (fun w => by rw [hq] at w; cases w)).symm))))
        refine n_iinc (j := (2 * pn + i)) (n := 1) (lv' := [(24, .int (nI ((2 * pn + i) + 1))), (25, .int (bI (bit (nI st9) f))), (23, .int (nI f)), (22, .int (Z (33, 0, 0, 0) (3 * en + pn))), (21, .int (bI true)), (20, .int (nI st9)), (19, .int (nI pn)), (18, .int (bI true)), (17, .int (nI en)), (16, .int (nI dv)), (15, .int (nI three)), (14, .int (nI two)), (13, .int (nI one)), (12, .int (nI what)), (0, .ref (ad (0, 0, 0, 0))), (1, .ref b), (2, .int (nI at9)), (3, .ref (ad (35, 0, 0, 0))), (4, .ref (ad (37, 0, 0, 0))), (5, .ref (ad (39, 0, 0, 0))), (6, .ref (ad (43, 0, 0, 0))), (7, .ref (ad (44, 0, 0, 0))), (8, .ref (ad (41, 0, 0, 0))), (9, .ref (ad (42, 0, 0, 0))), (10, .ref (ad (40, 0, 0, 0))), (11, .ref (ad (45, 0, 0, 0)))]) hx hb dL_isDone_1025 hl (k := 1) rfl (by decide) (by decide) rfl (fun ls hl => ?_)
        refine lv_goto (tgt := 932) hx hb dL_isDone_1028 (by decide) ?_
        exact ih932 (i + 1) (by omega) (by omega) H locs ls (h.eq (congrArg (lay tc ad gm dz) rfl)) (lv_sub hl [0, 2, 3, 4, 5, 6, 7, 8, 9, 10, 11, 12, 13, 14, 15, 16, 17, 18, 19, 20, 21, 22, 23, 24, 25] rfl)
      · skip
        have hq : bit (nI st9) f = true := bit_t c_951
        refine lv_iconst (v := nI 1) hx hb dL_isDone_954 (by decide) ?_
        refine lv_goto (tgt := 959) hx hb dL_isDone_955 (by decide) ?_
        rw [lb_t hq]
        refine lv_istore (lv' := [(25, .int (bI (bit (nI st9) f))), (24, .int (nI (2 * pn + i))), (23, .int (nI f)), (22, .int (Z (33, 0, 0, 0) (3 * en + pn))), (21, .int (bI true)), (20, .int (nI st9)), (19, .int (nI pn)), (18, .int (bI true)), (17, .int (nI en)), (16, .int (nI dv)), (15, .int (nI three)), (14, .int (nI two)), (13, .int (nI one)), (12, .int (nI what)), (0, .ref (ad (0, 0, 0, 0))), (1, .ref b), (2, .int (nI at9)), (3, .ref (ad (35, 0, 0, 0))), (4, .ref (ad (37, 0, 0, 0))), (5, .ref (ad (39, 0, 0, 0))), (6, .ref (ad (43, 0, 0, 0))), (7, .ref (ad (44, 0, 0, 0))), (8, .ref (ad (41, 0, 0, 0))), (9, .ref (ad (42, 0, 0, 0))), (10, .ref (ad (40, 0, 0, 0))), (11, .ref (ad (45, 0, 0, 0)))]) hx hb dL_isDone_959 hl (by decide) rfl (fun ls hl => ?_)
        refine lv_aload_n hx hb dL_isDone_961 rfl (lv_at hl 17 rfl) ?_
        refine lv_iload hx hb dL_isDone_962 (lv_at hl 1 rfl) ?_
        refine lv_iload hx hb dL_isDone_964 (lv_at hl 8 rfl) ?_
        refine lv_iload hx hb dL_isDone_966 (lv_at hl 2 rfl) ?_
        refine x_doneI X h (x_runS X h (m_L_at (ShM Z en pn st9 f i) (2 * pn + i) en f _) F_L_at q744 q745 rfl (Nat.le_trans (by decide) hR1) (Nat.le_trans (by decide) hR2) ⟨by omega, by omega⟩ hl.1 (Nat.le_of_ble_eq_true rfl) dL_isDone_968 rfl) (fun H locs h => ?_)
        refine lv_iload hx hb dL_isDone_971 (lv_at hl 0 rfl) ?_
        refine b_if_eq (tgt := 990) hx hb dL_isDone_973 (by decide) (fun c => by rw [hq] at c; cases c) (fun _ => ?_)
        refine lv_aload_n hx hb dL_isDone_976 rfl (lv_at hl 17 rfl) ?_
        refine lv_iload hx hb dL_isDone_977 (lv_at hl 1 rfl) ?_
        refine lv_iload hx hb dL_isDone_979 (lv_at hl 8 rfl) ?_
        refine lv_iload hx hb dL_isDone_981 (lv_at hl 2 rfl) ?_
        refine x_doneI X h (x_runS X h (m_L_at (ShM Z en pn st9 f i) (2 * pn + i) en f _) F_L_at q744 q745 rfl (Nat.le_trans (by decide) hR1) (Nat.le_trans (by decide) hR2) ⟨by omega, by omega⟩ hl.1 (Nat.le_of_ble_eq_true rfl) dL_isDone_983 rfl) (fun H locs h => ?_)
        refine z_lald X h pkB (fun _ => rfl) (by decide) (hL (35, 0, 0, 0) ⟨by decide, rfl, rfl, rfl⟩) (by omega) (v := pk (rw6 ((ShM Z en pn st9 f i) (35, 0, 0, 0)) (24 * (10 * (2 * pn + i) + en) + 6 * f))) (pkB_at (by omega) (by omega)) dL_isDone_986 ?_
        refine lv_goto (tgt := 991) hx hb dL_isDone_987 (by decide) ?_
        refine z_last X h pkB (fun _ => rfl) (by decide) (hL (35, 0, 0, 0) ⟨by decide, rfl, rfl, rfl⟩) (by omega) (st6 ((ShM Z en pn st9 f i) (35, 0, 0, 0)) (24 * (10 * (2 * pn + i) + en) + 6 * f) (rw6 ((ShM Z en pn st9 f i) (35, 0, 0, 0)) (24 * (10 * (2 * pn + i) + en) + 6 * f))) (lastB (by omega) (by omega)) dL_isDone_991 (fun H locs h => ?_)
        refine lv_aload hx hb dL_isDone_992 (lv_at hl 18 rfl) ?_
        refine lv_iload hx hb dL_isDone_994 (lv_at hl 1 rfl) ?_
        refine lv_iload hx hb dL_isDone_996 (lv_at hl 8 rfl) ?_
        refine lv_iload hx hb dL_isDone_998 (lv_at hl 2 rfl) ?_
        refine x_doneI X h (x_runS X h (m_L_at (sset (ShM Z en pn st9 f i) (35, 0, 0, 0) (st6 ((ShM Z en pn st9 f i) (35, 0, 0, 0)) (24 * (10 * (2 * pn + i) + en) + 6 * f) (rw6 ((ShM Z en pn st9 f i) (35, 0, 0, 0)) (24 * (10 * (2 * pn + i) + en) + 6 * f)))) (2 * pn + i) en f _) F_L_at q744 q745 rfl (Nat.le_trans (by decide) hR1) (Nat.le_trans (by decide) hR2) ⟨by omega, by omega⟩ hl.1 (Nat.le_of_ble_eq_true rfl) dL_isDone_1000 rfl) (fun H locs h => ?_)
        refine lv_iload hx hb dL_isDone_1003 (lv_at hl 0 rfl) ?_
        refine b_if_eq (tgt := 1023) hx hb dL_isDone_1005 (by decide) (fun c => by rw [hq] at c; cases c) (fun _ => ?_)
        refine lv_aload hx hb dL_isDone_1008 (lv_at hl 18 rfl) ?_
        refine lv_iload hx hb dL_isDone_1010 (lv_at hl 1 rfl) ?_
        refine lv_iload hx hb dL_isDone_1012 (lv_at hl 8 rfl) ?_
        refine lv_iload hx hb dL_isDone_1014 (lv_at hl 2 rfl) ?_
        refine x_doneI X h (x_runS X h (m_L_at (sset (ShM Z en pn st9 f i) (35, 0, 0, 0) (st6 ((ShM Z en pn st9 f i) (35, 0, 0, 0)) (24 * (10 * (2 * pn + i) + en) + 6 * f) (rw6 ((ShM Z en pn st9 f i) (35, 0, 0, 0)) (24 * (10 * (2 * pn + i) + en) + 6 * f)))) (2 * pn + i) en f _) F_L_at q744 q745 rfl (Nat.le_trans (by decide) hR1) (Nat.le_trans (by decide) hR2) ⟨by omega, by omega⟩ hl.1 (Nat.le_of_ble_eq_true rfl) dL_isDone_1016 rfl) (fun H locs h => ?_)
        refine z_lald X h pkB (fun _ => rfl) (by decide) (hL (37, 0, 0, 0) ⟨by decide, rfl, rfl, rfl⟩) (by omega) (v := pk (rw6 ((ShM Z en pn st9 f i) (37, 0, 0, 0)) (24 * (10 * (2 * pn + i) + en) + 6 * f))) ((congrFun (congrArg pkB (sset_ne _ _ (nek (by decide)))) _).trans (pkB_at (by omega) (by omega))) dL_isDone_1019 ?_
        refine lv_goto (tgt := 1024) hx hb dL_isDone_1020 (by decide) ?_
        refine z_last X h pkB (fun _ => rfl) (by decide) (hL (37, 0, 0, 0) ⟨by decide, rfl, rfl, rfl⟩) (by omega) (st6 ((sset (ShM Z en pn st9 f i) (35, 0, 0, 0) (st6 ((ShM Z en pn st9 f i) (35, 0, 0, 0)) (24 * (10 * (2 * pn + i) + en) + 6 * f) (rw6 ((ShM Z en pn st9 f i) (35, 0, 0, 0)) (24 * (10 * (2 * pn + i) + en) + 6 * f)))) (37, 0, 0, 0)) (24 * (10 * (2 * pn + i) + en) + 6 * f) (rw6 ((ShM Z en pn st9 f i) (37, 0, 0, 0)) (24 * (10 * (2 * pn + i) + en) + 6 * f))) (lastB (by omega) (by omega)) dL_isDone_1024 (fun H locs h => ?_)
        have h := h.eq (congrArg (lay tc ad gm dz) (show (sset (sset (ShM Z en pn st9 f i) (35, 0, 0, 0) (st6 ((ShM Z en pn st9 f i) (35, 0, 0, 0)) (24 * (10 * (2 * pn + i) + en) + 6 * f) (rw6 ((ShM Z en pn st9 f i) (35, 0, 0, 0)) (24 * (10 * (2 * pn + i) + en) + 6 * f)))) (37, 0, 0, 0) (st6 ((sset (ShM Z en pn st9 f i) (35, 0, 0, 0) (st6 ((ShM Z en pn st9 f i) (35, 0, 0, 0)) (24 * (10 * (2 * pn + i) + en) + 6 * f) (rw6 ((ShM Z en pn st9 f i) (35, 0, 0, 0)) (24 * (10 * (2 * pn + i) + en) + 6 * f)))) (37, 0, 0, 0)) (24 * (10 * (2 * pn + i) + en) + 6 * f) (rw6 ((ShM Z en pn st9 f i) (37, 0, 0, 0)) (24 * (10 * (2 * pn + i) + en) + 6 * f)))) = (ShM Z en pn st9 f (i + 1)) from (ShM_s (by omega) (by omega) (by omega) (fun k hk => (if_pos hq).symm) (fun k hk => (if_pos hq).symm))))
        refine n_iinc (j := (2 * pn + i)) (n := 1) (lv' := [(24, .int (nI ((2 * pn + i) + 1))), (25, .int (bI (bit (nI st9) f))), (23, .int (nI f)), (22, .int (Z (33, 0, 0, 0) (3 * en + pn))), (21, .int (bI true)), (20, .int (nI st9)), (19, .int (nI pn)), (18, .int (bI true)), (17, .int (nI en)), (16, .int (nI dv)), (15, .int (nI three)), (14, .int (nI two)), (13, .int (nI one)), (12, .int (nI what)), (0, .ref (ad (0, 0, 0, 0))), (1, .ref b), (2, .int (nI at9)), (3, .ref (ad (35, 0, 0, 0))), (4, .ref (ad (37, 0, 0, 0))), (5, .ref (ad (39, 0, 0, 0))), (6, .ref (ad (43, 0, 0, 0))), (7, .ref (ad (44, 0, 0, 0))), (8, .ref (ad (41, 0, 0, 0))), (9, .ref (ad (42, 0, 0, 0))), (10, .ref (ad (40, 0, 0, 0))), (11, .ref (ad (45, 0, 0, 0)))]) hx hb dL_isDone_1025 hl (k := 1) rfl (by decide) (by decide) rfl (fun ls hl => ?_)
        refine lv_goto (tgt := 932) hx hb dL_isDone_1028 (by decide) ?_
        exact ih932 (i + 1) (by omega) (by omega) H locs ls (h.eq (congrArg (lay tc ad gm dz) rfl)) (lv_sub hl [0, 2, 3, 4, 5, 6, 7, 8, 9, 10, 11, 12, 13, 14, 15, 16, 17, 18, 19, 20, 21, 22, 23, 24, 25] rfl)
end SEGS
