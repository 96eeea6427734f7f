/-! a step of the law: the stretches ahead of its acts -/
theorem wc_o {X : Mem} {e : Nat} : LL X (44, 0, 0, 0) (4 * e) = X (32, 0, 0, 0) e := by
  rw [LL_44]
  unfold wcode
  rw [if_pos (by omega), show 4 * e / 4 = e by omega]
theorem wc_s {X : Mem} {e q : Nat} (hq : q < 3) : LL X (44, 0, 0, 0) (4 * e + 1 + q) = X (33, 0, 0, 0) (3 * e + q) := by
  rw [LL_44]
  unfold wcode
  rw [if_neg (by omega), show (4 * e + 1 + q) / 4 = e by omega, show (4 * e + 1 + q) % 4 - 1 = q by omega]
theorem gc_3 {X : Mem} {d : Nat} : LL X (45, 0, 0, 0) (3 + d) = X (31, 0, 0, 0) d := by
  rw [LL_45]
  unfold gcode
  rw [if_neg (by omega), if_neg (by omega), if_neg (by omega), show 3 + d - 3 = d by omega]
theorem ck_no {I Z : Mem} {L : Nat → Nat → Int32 → Int32} {n m t : Nat} {ac mcs : Nat → Nat} (R : Rel I Z L n m t ac mcs) {dv en : Nat} (hd : dv < 1000) (he : en < 1000) (h : dv < 6 → en < n → Z (34, 0, 0, 0) (10 * dv + en) = nI 0) : ckn I 0 n (nI dv) (nI en) = false := by
  have hn10 := R.gl.n10
  rcases ck_split (I := I) hn10 (nI dv) (nI en) with q | ⟨d, e, hd6, hen, e1, e2, hk⟩
  · exact q
  · have e1 := nI_inj (by omega) (by omega) e1
    have e2 := nI_inj (by omega) (by omega) e2
    subst e1
    subst e2
    rw [(R.cp en dv (by omega) hd6).kn, h hd6 hen] at hk
    exact absurd hk (by decide)
theorem ck_yes {I Z : Mem} {L : Nat → Nat → Int32 → Int32} {ac : Nat → Nat} {d k : Nat} (hC : Cp I Z L ac k d) (h : Z (34, 0, 0, 0) (10 * d + k) = nI 1) : nz (I (9, 0, k, d) 0) = true := by
  rw [hC.kn, h]
  rfl
theorem tell_in (w : Int32) (h : w = -1 ∨ ∃ x : Nat, x < 1000 ∧ w = nI x) : inR w (-1) (nI 999) = true := by
  rcases h with rfl | ⟨x, hx, rfl⟩
  · decide
  · unfold inR
    rw [if_neg, if_neg]
    · rw [nI_ltI (by omega) (by omega)]; omega
    · rw [Int32.lt_iff_toInt_lt, i_nI (by omega), i_mone]; omega
theorem share_in {x : Nat} (h : x < 16) : inR (nI x) (nI 0) (nI 15) = true := by
  unfold inR
  rw [if_neg, if_neg]
  · rw [nI_ltI (by omega) (by omega)]; omega
  · rw [nI_ltI (by omega) (by omega)]; omega
section SEGS
variable {p : Program} {l : Launch} {e : Env} {R : Room} {s : State} {mth : MethodId} {args : Array Value} {below : List Frame} {meth : Method} {c : Code} {H : Heap} {locs : List Loc} {cells slots : Nat} {Q : State → Prop}
variable {D : va_G} {tc : TC} {dz : Nat} {A : Nat → Prop} {ad : KN → Nat} {Ks : List KN} {gm : GM} {ls : Array Slot}
set_option maxHeartbeats 4000000 in
set_option maxRecDepth 100000 in
theorem dn_1 (X : Cx p s mth args meth c cL_isDone yL_isDone.cls 26 D tc dz A) (hR1 : 14 ≤ R.frames) (hR2 : 462 ≤ R.locals) (hcR : cells + 0 ≤ R.cells) (hsR : slots + 0 ≤ R.slots) (hL : LV gm Ks) (hst : l.stackTraces = false) (hW : LW gm Ks) (hG2 : GM2 gm) (Z : Mem) (V : Nat → BS) (acts : Nat → Act) (z n m t : Nat) (ac mcs : Nat → Nat) (cn : Nat) (hS : LWS Z gm V acts z n m t ac mcs cn) (hcn : cn < 58) (b at9 : Nat) (L : Nat) (xs : Nat → Int32) (hXS : XS A b L xs s) (hL60 : L ≤ 260) (hat : at9 ≤ 900) (h : Sx D A ad Ks (lay tc ad gm dz (LL Z)) s H locs) (hl : lv_has ls 26 [(0, .ref (ad (0, 0, 0, 0))), (1, .ref b), (2, .int (nI at9)), (3, .ref (ad (35, 0, 0, 0))), (4, .ref (ad (37, 0, 0, 0))), (5, .ref (ad (39, 0, 0, 0))), (6, .ref (ad (43, 0, 0, 0))), (7, .ref (ad (44, 0, 0, 0))), (8, .ref (ad (41, 0, 0, 0))), (9, .ref (ad (42, 0, 0, 0))), (10, .ref (ad (40, 0, 0, 0))), (11, .ref (ad (45, 0, 0, 0)))])
    (kk : ∀ (what one two three : Nat), what < 40 → one < 6000 → two < 7000 → three < 8000 → ∀ (H1 : Heap) (locs1 : List Loc) (ls1 : Array Slot), Sx D A ad Ks (lay tc ad gm dz (LL Z)) s H1 locs1 → lv_has ls1 26 [(15, .int (nI three)), (14, .int (nI two)), (13, .int (nI one)), (12, .int (nI what)), (0, .ref (ad (0, 0, 0, 0))), (1, .ref b), (2, .int (nI at9)), (3, .ref (ad (35, 0, 0, 0))), (4, .ref (ad (37, 0, 0, 0))), (5, .ref (ad (39, 0, 0, 0))), (6, .ref (ad (43, 0, 0, 0))), (7, .ref (ad (44, 0, 0, 0))), (8, .ref (ad (41, 0, 0, 0))), (9, .ref (ad (42, 0, 0, 0))), (10, .ref (ad (40, 0, 0, 0))), (11, .ref (ad (45, 0, 0, 0)))] → W p l e R s mth args below meth c H1 locs1 cells slots Q (F0 mth 45 ls1 [])) : W p l e R s mth args below meth c H locs cells slots Q (F0 mth 0 ls []) := by
  have hok := hS.2.1
  have hn2 := hS.2.2.1
  have hm10 := hS.2.2.2
  have hN := nr_of hS.1.1
  have ht9 : t ≤ 2000 := by have := hS.1.2.2.2.2.2.2.2.2.2.1; omega
  have hBK := lb_bk (G := Z) hS.1 (fun _ _ => rfl)
  have hR9 := lb_rel0 (G := Z) hS.1.1 (fun _ _ => rfl)
  obtain ⟨hx, hb, hmaxL, hown, hts⟩ := id X.1
  refine lv_aload_n hx hb dL_isDone_0 rfl (lv_at hl 1 rfl) ?_
  refine lv_iload_n hx hb dL_isDone_1 rfl (lv_at hl 2 rfl) ?_
  refine lv_bipush (v := nI 40) hx hb dL_isDone_2 (by decide) ?_
  refine x_part X hXS h hL60 (by omega) (by decide) (by decide) q372 q373 (Nat.le_trans (by decide) hR1) (Nat.le_trans (by decide) hR2) (by omega) (by omega) hl.1 (Nat.le_of_ble_eq_true rfl) dL_isDone_4 (fun what H locs h_what h => ?_)
  refine lv_istore (lv' := [(12, .int (nI what)), (0, .ref (ad (0, 0, 0, 0))), (1, .ref b), (2, .int (nI at9)), (3, .ref (ad (35, 0, 0, 0))), (4, .ref (ad (37, 0, 0, 0))), (5, .ref (ad (39, 0, 0, 0))), (6, .ref (ad (43, 0, 0, 0))), (7, .ref (ad (44, 0, 0, 0))), (8, .ref (ad (41, 0, 0, 0))), (9, .ref (ad (42, 0, 0, 0))), (10, .ref (ad (40, 0, 0, 0))), (11, .ref (ad (45, 0, 0, 0)))]) hx hb dL_isDone_7 hl (by decide) rfl (fun ls hl => ?_)
  refine lv_aload_n hx hb dL_isDone_9 rfl (lv_at hl 2 rfl) ?_
  refine lv_iload_n hx hb dL_isDone_10 rfl (lv_at hl 3 rfl) ?_
  refine lv_iconst (v := nI 1) hx hb dL_isDone_11 (by decide) ?_
  refine n_iadd hx hb dL_isDone_12 ?_
  refine lv_sipush (v := nI 6000) hx hb dL_isDone_13 (by decide) ?_
  refine x_part X hXS h hL60 (by omega) (by decide) (by decide) q372 q373 (Nat.le_trans (by decide) hR1) (Nat.le_trans (by decide) hR2) (by omega) (by omega) hl.1 (Nat.le_of_ble_eq_true rfl) dL_isDone_16 (fun one H locs h_one h => ?_)
  refine lv_istore (lv' := [(13, .int (nI one)), (12, .int (nI what)), (0, .ref (ad (0, 0, 0, 0))), (1, .ref b), (2, .int (nI at9)), (3, .ref (ad (35, 0, 0, 0))), (4, .ref (ad (37, 0, 0, 0))), (5, .ref (ad (39, 0, 0, 0))), (6, .ref (ad (43, 0, 0, 0))), (7, .ref (ad (44, 0, 0, 0))), (8, .ref (ad (41, 0, 0, 0))), (9, .ref (ad (42, 0, 0, 0))), (10, .ref (ad (40, 0, 0, 0))), (11, .ref (ad (45, 0, 0, 0)))]) hx hb dL_isDone_19 hl (by decide) rfl (fun ls hl => ?_)
  refine lv_aload_n hx hb dL_isDone_21 rfl (lv_at hl 3 rfl) ?_
  refine lv_iload_n hx hb dL_isDone_22 rfl (lv_at hl 4 rfl) ?_
  refine lv_iconst (v := nI 2) hx hb dL_isDone_23 (by decide) ?_
  refine n_iadd hx hb dL_isDone_24 ?_
  refine lv_sipush (v := nI 7000) hx hb dL_isDone_25 (by decide) ?_
  refine x_part X hXS h hL60 (by omega) (by decide) (by decide) q372 q373 (Nat.le_trans (by decide) hR1) (Nat.le_trans (by decide) hR2) (by omega) (by omega) hl.1 (Nat.le_of_ble_eq_true rfl) dL_isDone_28 (fun two H locs h_two h => ?_)
  refine lv_istore (lv' := [(14, .int (nI two)), (13, .int (nI one)), (12, .int (nI what)), (0, .ref (ad (0, 0, 0, 0))), (1, .ref b), (2, .int (nI at9)), (3, .ref (ad (35, 0, 0, 0))), (4, .ref (ad (37, 0, 0, 0))), (5, .ref (ad (39, 0, 0, 0))), (6, .ref (ad (43, 0, 0, 0))), (7, .ref (ad (44, 0, 0, 0))), (8, .ref (ad (41, 0, 0, 0))), (9, .ref (ad (42, 0, 0, 0))), (10, .ref (ad (40, 0, 0, 0))), (11, .ref (ad (45, 0, 0, 0)))]) hx hb dL_isDone_31 hl (by decide) rfl (fun ls hl => ?_)
  refine lv_aload_n hx hb dL_isDone_33 rfl (lv_at hl 4 rfl) ?_
  refine lv_iload_n hx hb dL_isDone_34 rfl (lv_at hl 5 rfl) ?_
  refine lv_iconst (v := nI 3) hx hb dL_isDone_35 (by decide) ?_
  refine n_iadd hx hb dL_isDone_36 ?_
  refine lv_sipush (v := nI 8000) hx hb dL_isDone_37 (by decide) ?_
  refine x_part X hXS h hL60 (by omega) (by decide) (by decide) q372 q373 (Nat.le_trans (by decide) hR1) (Nat.le_trans (by decide) hR2) (by omega) (by omega) hl.1 (Nat.le_of_ble_eq_true rfl) dL_isDone_40 (fun three H locs h_three h => ?_)
  refine lv_istore (lv' := [(15, .int (nI three)), (14, .int (nI two)), (13, .int (nI one)), (12, .int (nI what)), (0, .ref (ad (0, 0, 0, 0))), (1, .ref b), (2, .int (nI at9)), (3, .ref (ad (35, 0, 0, 0))), (4, .ref (ad (37, 0, 0, 0))), (5, .ref (ad (39, 0, 0, 0))), (6, .ref (ad (43, 0, 0, 0))), (7, .ref (ad (44, 0, 0, 0))), (8, .ref (ad (41, 0, 0, 0))), (9, .ref (ad (42, 0, 0, 0))), (10, .ref (ad (40, 0, 0, 0))), (11, .ref (ad (45, 0, 0, 0)))]) hx hb dL_isDone_43 hl (by decide) rfl (fun ls hl => ?_)
  exact kk what one two three h_what h_one h_two h_three H locs ls h (lv_sub hl [0, 1, 2, 3, 4, 5, 6, 7, 8, 9, 10, 11, 12, 13, 14, 15] rfl)

set_option maxHeartbeats 4000000 in
set_option maxRecDepth 100000 in
theorem dn_2 (X : Cx p s mth args meth c cL_isDone yL_isDone.cls 26 D tc dz A) (hR1 : 14 ≤ R.frames) (hR2 : 462 ≤ R.locals) (hcR : cells + 0 ≤ R.cells) (hsR : slots + 0 ≤ R.slots) (hL : LV gm Ks) (hst : l.stackTraces = false) (hW : LW gm Ks) (hG2 : GM2 gm) (Z : Mem) (V : Nat → BS) (acts : Nat → Act) (z n m t : Nat) (ac mcs : Nat → Nat) (cn : Nat) (hS : LWS Z gm V acts z n m t ac mcs cn) (hcn : cn < 58) (b at9 : Nat) (what one two three : Nat) (h40 : what < 40) (h60 : one < 6000) (h70 : two < 7000) (h80 : three < 8000) (h : Sx D A ad Ks (lay tc ad gm dz (LL Z)) s H locs) (hl : lv_has ls 26 [(15, .int (nI three)), (14, .int (nI two)), (13, .int (nI one)), (12, .int (nI what)), (0, .ref (ad (0, 0, 0, 0))), (1, .ref b), (2, .int (nI at9)), (3, .ref (ad (35, 0, 0, 0))), (4, .ref (ad (37, 0, 0, 0))), (5, .ref (ad (39, 0, 0, 0))), (6, .ref (ad (43, 0, 0, 0))), (7, .ref (ad (44, 0, 0, 0))), (8, .ref (ad (41, 0, 0, 0))), (9, .ref (ad (42, 0, 0, 0))), (10, .ref (ad (40, 0, 0, 0))), (11, .ref (ad (45, 0, 0, 0)))])
    (kk : ∀ (dv : Nat), dv ≤ 6 → ∀ (H1 : Heap) (locs1 : List Loc) (ls1 : Array Slot), Sx D A ad Ks (lay tc ad gm dz (LL Z)) s H1 locs1 → lv_has ls1 26 [(16, .int (nI dv)), (15, .int (nI three)), (14, .int (nI two)), (13, .int (nI one)), (12, .int (nI what)), (0, .ref (ad (0, 0, 0, 0))), (1, .ref b), (2, .int (nI at9)), (3, .ref (ad (35, 0, 0, 0))), (4, .ref (ad (37, 0, 0, 0))), (5, .ref (ad (39, 0, 0, 0))), (6, .ref (ad (43, 0, 0, 0))), (7, .ref (ad (44, 0, 0, 0))), (8, .ref (ad (41, 0, 0, 0))), (9, .ref (ad (42, 0, 0, 0))), (10, .ref (ad (40, 0, 0, 0))), (11, .ref (ad (45, 0, 0, 0)))] → W p l e R s mth args below meth c H1 locs1 cells slots Q (F0 mth 65 ls1 [])) : W p l e R s mth args below meth c H locs cells slots Q (F0 mth 45 ls []) := by
  have hok := hS.2.1
  have hn2 := hS.2.2.1
  have hm10 := hS.2.2.2
  have hN := nr_of hS.1.1
  have ht9 : t ≤ 2000 := by have := hS.1.2.2.2.2.2.2.2.2.2.1; omega
  have hBK := lb_bk (G := Z) hS.1 (fun _ _ => rfl)
  have hR9 := lb_rel0 (G := Z) hS.1.1 (fun _ _ => rfl)
  obtain ⟨hx, hb, hmaxL, hown, hts⟩ := id X.1
  refine lv_iload hx hb dL_isDone_45 (lv_at hl 2 rfl) ?_
  refine lv_bipush (v := nI 30) hx hb dL_isDone_47 (by decide) ?_
  refine n_irem hx hb (by omega) (by omega) (by omega) dL_isDone_49 ?_
  refine n_if_ne (tgt := 58) hx hb (by omega) dL_isDone_50 (by decide) (fun c_50 => ?_) (fun c_50 => ?_)
  · skip
    refine lv_iload hx hb dL_isDone_58 (lv_at hl 2 rfl) ?_
    refine lv_bipush (v := nI 6) hx hb dL_isDone_60 (by decide) ?_
    refine n_irem hx hb (by omega) (by omega) (by omega) dL_isDone_62 ?_
    refine lv_istore (lv' := [(16, .int (nI (one % 6))), (15, .int (nI three)), (14, .int (nI two)), (13, .int (nI one)), (12, .int (nI what)), (0, .ref (ad (0, 0, 0, 0))), (1, .ref b), (2, .int (nI at9)), (3, .ref (ad (35, 0, 0, 0))), (4, .ref (ad (37, 0, 0, 0))), (5, .ref (ad (39, 0, 0, 0))), (6, .ref (ad (43, 0, 0, 0))), (7, .ref (ad (44, 0, 0, 0))), (8, .ref (ad (41, 0, 0, 0))), (9, .ref (ad (42, 0, 0, 0))), (10, .ref (ad (40, 0, 0, 0))), (11, .ref (ad (45, 0, 0, 0)))]) hx hb dL_isDone_63 hl (by decide) rfl (fun ls hl => ?_)
    exact kk (one % 6) (by omega) H locs ls h (lv_sub hl [0, 1, 2, 3, 4, 5, 6, 7, 8, 9, 10, 11, 12, 13, 14, 15, 16] rfl)
  · skip
    refine lv_bipush (v := nI 6) hx hb dL_isDone_53 (by decide) ?_
    refine lv_goto (tgt := 63) hx hb dL_isDone_55 (by decide) ?_
    refine lv_istore (lv' := [(16, .int (nI 6)), (15, .int (nI three)), (14, .int (nI two)), (13, .int (nI one)), (12, .int (nI what)), (0, .ref (ad (0, 0, 0, 0))), (1, .ref b), (2, .int (nI at9)), (3, .ref (ad (35, 0, 0, 0))), (4, .ref (ad (37, 0, 0, 0))), (5, .ref (ad (39, 0, 0, 0))), (6, .ref (ad (43, 0, 0, 0))), (7, .ref (ad (44, 0, 0, 0))), (8, .ref (ad (41, 0, 0, 0))), (9, .ref (ad (42, 0, 0, 0))), (10, .ref (ad (40, 0, 0, 0))), (11, .ref (ad (45, 0, 0, 0)))]) hx hb dL_isDone_63 hl (by decide) rfl (fun ls hl => ?_)
    exact kk (6) (by omega) H locs ls h (lv_sub hl [0, 1, 2, 3, 4, 5, 6, 7, 8, 9, 10, 11, 12, 13, 14, 15, 16] rfl)

set_option maxHeartbeats 4000000 in
set_option maxRecDepth 100000 in
theorem dn_3 (X : Cx p s mth args meth c cL_isDone yL_isDone.cls 26 D tc dz A) (hR1 : 14 ≤ R.frames) (hR2 : 462 ≤ R.locals) (hcR : cells + 0 ≤ R.cells) (hsR : slots + 0 ≤ R.slots) (hL : LV gm Ks) (hst : l.stackTraces = false) (hW : LW gm Ks) (hG2 : GM2 gm) (Z : Mem) (V : Nat → BS) (acts : Nat → Act) (z n m t : Nat) (ac mcs : Nat → Nat) (cn : Nat) (hS : LWS Z gm V acts z n m t ac mcs cn) (hcn : cn < 58) (b at9 : Nat) (what one two three : Nat) (h40 : what < 40) (h60 : one < 6000) (h70 : two < 7000) (h80 : three < 8000) (dv : Nat) (h : Sx D A ad Ks (lay tc ad gm dz (LL Z)) s H locs) (hl : lv_has ls 26 [(16, .int (nI dv)), (15, .int (nI three)), (14, .int (nI two)), (13, .int (nI one)), (12, .int (nI what)), (0, .ref (ad (0, 0, 0, 0))), (1, .ref b), (2, .int (nI at9)), (3, .ref (ad (35, 0, 0, 0))), (4, .ref (ad (37, 0, 0, 0))), (5, .ref (ad (39, 0, 0, 0))), (6, .ref (ad (43, 0, 0, 0))), (7, .ref (ad (44, 0, 0, 0))), (8, .ref (ad (41, 0, 0, 0))), (9, .ref (ad (42, 0, 0, 0))), (10, .ref (ad (40, 0, 0, 0))), (11, .ref (ad (45, 0, 0, 0)))])
    (kk : ∀ (en : Nat), en ≤ 2 → ∀ (H1 : Heap) (locs1 : List Loc) (ls1 : Array Slot), Sx D A ad Ks (lay tc ad gm dz (LL Z)) s H1 locs1 → lv_has ls1 26 [(17, .int (nI en)), (16, .int (nI dv)), (15, .int (nI three)), (14, .int (nI two)), (13, .int (nI one)), (12, .int (nI what)), (0, .ref (ad (0, 0, 0, 0))), (1, .ref b), (2, .int (nI at9)), (3, .ref (ad (35, 0, 0, 0))), (4, .ref (ad (37, 0, 0, 0))), (5, .ref (ad (39, 0, 0, 0))), (6, .ref (ad (43, 0, 0, 0))), (7, .ref (ad (44, 0, 0, 0))), (8, .ref (ad (41, 0, 0, 0))), (9, .ref (ad (42, 0, 0, 0))), (10, .ref (ad (40, 0, 0, 0))), (11, .ref (ad (45, 0, 0, 0)))] → W p l e R s mth args below meth c H1 locs1 cells slots Q (F0 mth 86 ls1 [])) : W p l e R s mth args below meth c H locs cells slots Q (F0 mth 65 ls []) := by
  have hok := hS.2.1
  have hn2 := hS.2.2.1
  have hm10 := hS.2.2.2
  have hN := nr_of hS.1.1
  have ht9 : t ≤ 2000 := by have := hS.1.2.2.2.2.2.2.2.2.2.1; omega
  have hBK := lb_bk (G := Z) hS.1 (fun _ _ => rfl)
  have hR9 := lb_rel0 (G := Z) hS.1.1 (fun _ _ => rfl)
  obtain ⟨hx, hb, hmaxL, hown, hts⟩ := id X.1
  refine lv_iload hx hb dL_isDone_65 (lv_at hl 2 rfl) ?_
  refine lv_bipush (v := nI 30) hx hb dL_isDone_67 (by decide) ?_
  refine n_irem hx hb (by omega) (by omega) (by omega) dL_isDone_69 ?_
  refine n_if_ne (tgt := 80) hx hb (by omega) dL_isDone_70 (by decide) (fun c_70 => ?_) (fun c_70 => ?_)
  · skip
    refine lv_iload hx hb dL_isDone_80 (lv_at hl 2 rfl) ?_
    refine lv_iconst (v := nI 2) hx hb dL_isDone_82 (by decide) ?_
    refine n_irem hx hb (by omega) (by omega) (by omega) dL_isDone_83 ?_
    refine lv_istore (lv' := [(17, .int (nI (two % 2))), (16, .int (nI dv)), (15, .int (nI three)), (14, .int (nI two)), (13, .int (nI one)), (12, .int (nI what)), (0, .ref (ad (0, 0, 0, 0))), (1, .ref b), (2, .int (nI at9)), (3, .ref (ad (35, 0, 0, 0))), (4, .ref (ad (37, 0, 0, 0))), (5, .ref (ad (39, 0, 0, 0))), (6, .ref (ad (43, 0, 0, 0))), (7, .ref (ad (44, 0, 0, 0))), (8, .ref (ad (41, 0, 0, 0))), (9, .ref (ad (42, 0, 0, 0))), (10, .ref (ad (40, 0, 0, 0))), (11, .ref (ad (45, 0, 0, 0)))]) hx hb dL_isDone_84 hl (by decide) rfl (fun ls hl => ?_)
    exact kk (two % 2) (by omega) H locs ls h (lv_sub hl [0, 1, 2, 3, 4, 5, 6, 7, 8, 9, 10, 11, 12, 13, 14, 15, 16, 17] rfl)
  · skip
    refine lv_aload hx hb dL_isDone_73 (lv_at hl 16 rfl) ?_
    refine lv_iconst (v := nI 0) hx hb dL_isDone_75 (by decide) ?_
    refine y_ald X h (fun _ => rfl) (by decide) (hL (45, 0, 0, 0) ⟨by decide, rfl, rfl, rfl⟩) (by omega) (v := nI n) (gc_0.trans hN.1) dL_isDone_76 ?_
    refine lv_goto (tgt := 84) hx hb dL_isDone_77 (by decide) ?_
    refine lv_istore (lv' := [(17, .int (nI n)), (16, .int (nI dv)), (15, .int (nI three)), (14, .int (nI two)), (13, .int (nI one)), (12, .int (nI what)), (0, .ref (ad (0, 0, 0, 0))), (1, .ref b), (2, .int (nI at9)), (3, .ref (ad (35, 0, 0, 0))), (4, .ref (ad (37, 0, 0, 0))), (5, .ref (ad (39, 0, 0, 0))), (6, .ref (ad (43, 0, 0, 0))), (7, .ref (ad (44, 0, 0, 0))), (8, .ref (ad (41, 0, 0, 0))), (9, .ref (ad (42, 0, 0, 0))), (10, .ref (ad (40, 0, 0, 0))), (11, .ref (ad (45, 0, 0, 0)))]) hx hb dL_isDone_84 hl (by decide) rfl (fun ls hl => ?_)
    exact kk (n) (by omega) H locs ls h (lv_sub hl [0, 1, 2, 3, 4, 5, 6, 7, 8, 9, 10, 11, 12, 13, 14, 15, 16, 17] rfl)

set_option maxHeartbeats 4000000 in
set_option maxRecDepth 100000 in
theorem dn_4 (X : Cx p s mth args meth c cL_isDone yL_isDone.cls 26 D tc dz A) (hR1 : 14 ≤ R.frames) (hR2 : 462 ≤ R.locals) (hcR : cells + 0 ≤ R.cells) (hsR : slots + 0 ≤ R.slots) (hL : LV gm Ks) (hst : l.stackTraces = false) (hW : LW gm Ks) (hG2 : GM2 gm) (Z : Mem) (V : Nat → BS) (acts : Nat → Act) (z n m t : Nat) (ac mcs : Nat → Nat) (cn : Nat) (hS : LWS Z gm V acts z n m t ac mcs cn) (hcn : cn < 58) (b at9 : Nat) (what one two three : Nat) (h40 : what < 40) (h60 : one < 6000) (h70 : two < 7000) (h80 : three < 8000) (dv en : Nat) (hdv : dv ≤ 6) (hen : en ≤ 2) (h : Sx D A ad Ks (lay tc ad gm dz (LL Z)) s H locs) (hl : lv_has ls 26 [(17, .int (nI en)), (16, .int (nI dv)), (15, .int (nI three)), (14, .int (nI two)), (13, .int (nI one)), (12, .int (nI what)), (0, .ref (ad (0, 0, 0, 0))), (1, .ref b), (2, .int (nI at9)), (3, .ref (ad (35, 0, 0, 0))), (4, .ref (ad (37, 0, 0, 0))), (5, .ref (ad (39, 0, 0, 0))), (6, .ref (ad (43, 0, 0, 0))), (7, .ref (ad (44, 0, 0, 0))), (8, .ref (ad (41, 0, 0, 0))), (9, .ref (ad (42, 0, 0, 0))), (10, .ref (ad (40, 0, 0, 0))), (11, .ref (ad (45, 0, 0, 0)))])
    (kk : ∀ (kn : Bool), (kn = true → dv < 6 ∧ en < n ∧ Z (34, 0, 0, 0) (10 * dv + en) = nI 1) → (kn = false → ckn (LL Z) 0 n (nI dv) (nI en) = false) → ∀ (H1 : Heap) (locs1 : List Loc) (ls1 : Array Slot), Sx D A ad Ks (lay tc ad gm dz (LL Z)) s H1 locs1 → lv_has ls1 26 [(18, .int (bI kn)), (17, .int (nI en)), (16, .int (nI dv)), (15, .int (nI three)), (14, .int (nI two)), (13, .int (nI one)), (12, .int (nI what)), (0, .ref (ad (0, 0, 0, 0))), (1, .ref b), (2, .int (nI at9)), (3, .ref (ad (35, 0, 0, 0))), (4, .ref (ad (37, 0, 0, 0))), (5, .ref (ad (39, 0, 0, 0))), (6, .ref (ad (43, 0, 0, 0))), (7, .ref (ad (44, 0, 0, 0))), (8, .ref (ad (41, 0, 0, 0))), (9, .ref (ad (42, 0, 0, 0))), (10, .ref (ad (40, 0, 0, 0))), (11, .ref (ad (45, 0, 0, 0)))] → W p l e R s mth args below meth c H1 locs1 cells slots Q (F0 mth 130 ls1 [])) : W p l e R s mth args below meth c H locs cells slots Q (F0 mth 86 ls []) := by
  have hok := hS.2.1
  have hn2 := hS.2.2.1
  have hm10 := hS.2.2.2
  have hN := nr_of hS.1.1
  have ht9 : t ≤ 2000 := by have := hS.1.2.2.2.2.2.2.2.2.2.1; omega
  have hBK := lb_bk (G := Z) hS.1 (fun _ _ => rfl)
  have hR9 := lb_rel0 (G := Z) hS.1.1 (fun _ _ => rfl)
  obtain ⟨ka, kb, hka, hkb, h34, h38, h43⟩ := hok.k01.at (d := dv % 6) (e := en % 2) (by omega)
  obtain ⟨hx, hb, hmaxL, hown, hts⟩ := id X.1
  refine lv_iload hx hb dL_isDone_86 (lv_at hl 1 rfl) ?_
  refine lv_bipush (v := nI 6) hx hb dL_isDone_88 (by decide) ?_
  refine n_icmp_ge (tgt := 127) hx hb (by omega) (by omega) dL_isDone_90 (by decide) (fun c_90 => ?_) (fun c_90 => ?_)
  · skip
    refine lv_iconst (v := nI 0) hx hb dL_isDone_127 (by decide) ?_
    refine lv_istore (lv' := [(18, .int (nI 0)), (17, .int (nI en)), (16, .int (nI dv)), (15, .int (nI three)), (14, .int (nI two)), (13, .int (nI one)), (12, .int (nI what)), (0, .ref (ad (0, 0, 0, 0))), (1, .ref b), (2, .int (nI at9)), (3, .ref (ad (35, 0, 0, 0))), (4, .ref (ad (37, 0, 0, 0))), (5, .ref (ad (39, 0, 0, 0))), (6, .ref (ad (43, 0, 0, 0))), (7, .ref (ad (44, 0, 0, 0))), (8, .ref (ad (41, 0, 0, 0))), (9, .ref (ad (42, 0, 0, 0))), (10, .ref (ad (40, 0, 0, 0))), (11, .ref (ad (45, 0, 0, 0)))]) hx hb dL_isDone_128 hl (by decide) rfl (fun ls hl => ?_)
    exact kk false (fun q => absurd q (by decide)) (fun _ => ck_no hR9 (by omega) (by omega) (fun a9 b9 => by first | exact absurd a9 (by omega) | exact absurd b9 (by omega) | (rw [show 10 * dv + en = 10 * (dv % 6) + en % 2 by omega, h34, show ka = 0 by omega]))) H locs ls h (lv_sub hl [0, 1, 2, 3, 4, 5, 6, 7, 8, 9, 10, 11, 12, 13, 14, 15, 16, 17, 18] rfl)
  · skip
    refine lv_iload hx hb dL_isDone_93 (lv_at hl 0 rfl) ?_
    refine lv_aload hx hb dL_isDone_95 (lv_at hl 17 rfl) ?_
    refine lv_iconst (v := nI 0) hx hb dL_isDone_97 (by decide) ?_
    refine y_ald X h (fun _ => rfl) (by decide) (hL (45, 0, 0, 0) ⟨by decide, rfl, rfl, rfl⟩) (by omega) (v := nI n) (gc_0.trans hN.1) dL_isDone_98 ?_
    refine n_icmp_ge (tgt := 127) hx hb (by omega) (by omega) dL_isDone_99 (by decide) (fun c_99 => ?_) (fun c_99 => ?_)
    · skip
      refine lv_iconst (v := nI 0) hx hb dL_isDone_127 (by decide) ?_
      refine lv_istore (lv' := [(18, .int (nI 0)), (17, .int (nI en)), (16, .int (nI dv)), (15, .int (nI three)), (14, .int (nI two)), (13, .int (nI one)), (12, .int (nI what)), (0, .ref (ad (0, 0, 0, 0))), (1, .ref b), (2, .int (nI at9)), (3, .ref (ad (35, 0, 0, 0))), (4, .ref (ad (37, 0, 0, 0))), (5, .ref (ad (39, 0, 0, 0))), (6, .ref (ad (43, 0, 0, 0))), (7, .ref (ad (44, 0, 0, 0))), (8, .ref (ad (41, 0, 0, 0))), (9, .ref (ad (42, 0, 0, 0))), (10, .ref (ad (40, 0, 0, 0))), (11, .ref (ad (45, 0, 0, 0)))]) hx hb dL_isDone_128 hl (by decide) rfl (fun ls hl => ?_)
      exact kk false (fun q => absurd q (by decide)) (fun _ => ck_no hR9 (by omega) (by omega) (fun a9 b9 => by first | exact absurd a9 (by omega) | exact absurd b9 (by omega) | (rw [show 10 * dv + en = 10 * (dv % 6) + en % 2 by omega, h34, show ka = 0 by omega]))) H locs ls h (lv_sub hl [0, 1, 2, 3, 4, 5, 6, 7, 8, 9, 10, 11, 12, 13, 14, 15, 16, 17, 18] rfl)
    · skip
      refine lv_aload hx hb dL_isDone_102 (lv_at hl 12 rfl) ?_
      refine lv_iconst (v := nI 2) hx hb dL_isDone_104 (by decide) ?_
      refine lv_iload hx hb dL_isDone_105 (lv_at hl 1 rfl) ?_
      refine lv_bipush (v := nI 6) hx hb dL_isDone_107 (by decide) ?_
      refine n_irem hx hb (by omega) (by omega) (by omega) dL_isDone_109 ?_
      refine n_imul hx hb dL_isDone_110 ?_
      refine lv_iload hx hb dL_isDone_111 (lv_at hl 0 rfl) ?_
      refine lv_iconst (v := nI 2) hx hb dL_isDone_113 (by decide) ?_
      refine n_irem hx hb (by omega) (by omega) (by omega) dL_isDone_114 ?_
      refine n_iadd hx hb dL_isDone_115 ?_
      refine y_ald X h (fun _ => rfl) (by decide) (hL (43, 0, 0, 0) ⟨by decide, rfl, rfl, rfl⟩) (by omega) (v := nI (ka + 2 * kb)) h43 dL_isDone_116 ?_
      refine lv_iconst (v := nI 2) hx hb dL_isDone_117 (by decide) ?_
      refine n_irem hx hb (by omega) (by omega) (by omega) dL_isDone_118 ?_
      refine lv_iconst (v := nI 1) hx hb dL_isDone_119 (by decide) ?_
      refine n_icmp_ne (tgt := 127) hx hb (by omega) (by omega) dL_isDone_120 (by decide) (fun c_120 => ?_) (fun c_120 => ?_)
      · skip
        refine lv_iconst (v := nI 0) hx hb dL_isDone_127 (by decide) ?_
        refine lv_istore (lv' := [(18, .int (nI 0)), (17, .int (nI en)), (16, .int (nI dv)), (15, .int (nI three)), (14, .int (nI two)), (13, .int (nI one)), (12, .int (nI what)), (0, .ref (ad (0, 0, 0, 0))), (1, .ref b), (2, .int (nI at9)), (3, .ref (ad (35, 0, 0, 0))), (4, .ref (ad (37, 0, 0, 0))), (5, .ref (ad (39, 0, 0, 0))), (6, .ref (ad (43, 0, 0, 0))), (7, .ref (ad (44, 0, 0, 0))), (8, .ref (ad (41, 0, 0, 0))), (9, .ref (ad (42, 0, 0, 0))), (10, .ref (ad (40, 0, 0, 0))), (11, .ref (ad (45, 0, 0, 0)))]) hx hb dL_isDone_128 hl (by decide) rfl (fun ls hl => ?_)
        exact kk false (fun q => absurd q (by decide)) (fun _ => ck_no hR9 (by omega) (by omega) (fun a9 b9 => by first | exact absurd a9 (by omega) | exact absurd b9 (by omega) | (rw [show 10 * dv + en = 10 * (dv % 6) + en % 2 by omega, h34, show ka = 0 by omega]))) H locs ls h (lv_sub hl [0, 1, 2, 3, 4, 5, 6, 7, 8, 9, 10, 11, 12, 13, 14, 15, 16, 17, 18] rfl)
      · skip
        refine lv_iconst (v := nI 1) hx hb dL_isDone_123 (by decide) ?_
        refine lv_goto (tgt := 128) hx hb dL_isDone_124 (by decide) ?_
        refine lv_istore (lv' := [(18, .int (nI 1)), (17, .int (nI en)), (16, .int (nI dv)), (15, .int (nI three)), (14, .int (nI two)), (13, .int (nI one)), (12, .int (nI what)), (0, .ref (ad (0, 0, 0, 0))), (1, .ref b), (2, .int (nI at9)), (3, .ref (ad (35, 0, 0, 0))), (4, .ref (ad (37, 0, 0, 0))), (5, .ref (ad (39, 0, 0, 0))), (6, .ref (ad (43, 0, 0, 0))), (7, .ref (ad (44, 0, 0, 0))), (8, .ref (ad (41, 0, 0, 0))), (9, .ref (ad (42, 0, 0, 0))), (10, .ref (ad (40, 0, 0, 0))), (11, .ref (ad (45, 0, 0, 0)))]) hx hb dL_isDone_128 hl (by decide) rfl (fun ls hl => ?_)
        exact kk true (fun _ => ⟨by omega, by omega, by rw [show 10 * dv + en = 10 * (dv % 6) + en % 2 by omega, h34, show ka = 1 by omega]⟩) (fun q => absurd q (by decide)) H locs ls h (lv_sub hl [0, 1, 2, 3, 4, 5, 6, 7, 8, 9, 10, 11, 12, 13, 14, 15, 16, 17, 18] rfl)

set_option maxHeartbeats 4000000 in
set_option maxRecDepth 100000 in
theorem dn_a (X : Cx p s mth args meth c cL_isDone yL_isDone.cls 26 D tc dz A) (hR1 : 14 ≤ R.frames) (hR2 : 462 ≤ R.locals) (hcR : cells + 0 ≤ R.cells) (hsR : slots + 0 ≤ R.slots) (hL : LV gm Ks) (hst : l.stackTraces = false) (hW : LW gm Ks) (hG2 : GM2 gm) (Z : Mem) (V : Nat → BS) (acts : Nat → Act) (z n m t : Nat) (ac mcs : Nat → Nat) (cn : Nat) (hS : LWS Z gm V acts z n m t ac mcs cn) (hcn : cn < 58) (b at9 : Nat) (what one two three : Nat) (h40 : what < 40) (h60 : one < 6000) (h70 : two < 7000) (h80 : three < 8000) (dv en : Nat) (hdv : dv ≤ 6) (hen : en ≤ 2) (kn : Bool) (hno : ¬ (what < 3 ∧ n < 2)) (h : Sx D A ad Ks (lay tc ad gm dz (LL Z)) s H locs) (hl : lv_has ls 26 [(18, .int (bI kn)), (17, .int (nI en)), (16, .int (nI dv)), (15, .int (nI three)), (14, .int (nI two)), (13, .int (nI one)), (12, .int (nI what)), (0, .ref (ad (0, 0, 0, 0))), (1, .ref b), (2, .int (nI at9)), (3, .ref (ad (35, 0, 0, 0))), (4, .ref (ad (37, 0, 0, 0))), (5, .ref (ad (39, 0, 0, 0))), (6, .ref (ad (43, 0, 0, 0))), (7, .ref (ad (44, 0, 0, 0))), (8, .ref (ad (41, 0, 0, 0))), (9, .ref (ad (42, 0, 0, 0))), (10, .ref (ad (40, 0, 0, 0))), (11, .ref (ad (45, 0, 0, 0)))])
    (kk : ∀ (H1 : Heap) (locs1 : List Loc) (ls1 : Array Slot), Sx D A ad Ks (lay tc ad gm dz (LL Z)) s H1 locs1 → lv_has ls1 26 [(18, .int (bI kn)), (17, .int (nI en)), (16, .int (nI dv)), (15, .int (nI three)), (14, .int (nI two)), (13, .int (nI one)), (12, .int (nI what)), (0, .ref (ad (0, 0, 0, 0))), (1, .ref b), (2, .int (nI at9)), (3, .ref (ad (35, 0, 0, 0))), (4, .ref (ad (37, 0, 0, 0))), (5, .ref (ad (39, 0, 0, 0))), (6, .ref (ad (43, 0, 0, 0))), (7, .ref (ad (44, 0, 0, 0))), (8, .ref (ad (41, 0, 0, 0))), (9, .ref (ad (42, 0, 0, 0))), (10, .ref (ad (40, 0, 0, 0))), (11, .ref (ad (45, 0, 0, 0)))] → W p l e R s mth args below meth c H1 locs1 cells slots Q (F0 mth 223 ls1 [])) : W p l e R s mth args below meth c H locs cells slots Q (F0 mth 130 ls []) := by
  have hok := hS.2.1
  have hn2 := hS.2.2.1
  have hm10 := hS.2.2.2
  have hN := nr_of hS.1.1
  have ht9 : t ≤ 2000 := by have := hS.1.2.2.2.2.2.2.2.2.2.1; omega
  have hBK := lb_bk (G := Z) hS.1 (fun _ _ => rfl)
  have hR9 := lb_rel0 (G := Z) hS.1.1 (fun _ _ => rfl)
  obtain ⟨hx, hb, hmaxL, hown, hts⟩ := id X.1
  refine lv_iload hx hb dL_isDone_130 (lv_at hl 6 rfl) ?_
  refine lv_iconst (v := nI 3) hx hb dL_isDone_132 (by decide) ?_
  refine n_icmp_ge (tgt := 223) hx hb (by omega) (by omega) dL_isDone_133 (by decide) (fun c_133 => ?_) (fun c_133 => ?_)
  · skip
    exact kk H locs ls h (lv_sub hl [0, 1, 2, 3, 4, 5, 6, 7, 8, 9, 10, 11, 12, 13, 14, 15, 16, 17, 18] rfl)
  · skip
    refine lv_aload hx hb dL_isDone_136 (lv_at hl 18 rfl) ?_
    refine lv_iconst (v := nI 0) hx hb dL_isDone_138 (by decide) ?_
    refine y_ald X h (fun _ => rfl) (by decide) (hL (45, 0, 0, 0) ⟨by decide, rfl, rfl, rfl⟩) (by omega) (v := nI n) (gc_0.trans hN.1) dL_isDone_139 ?_
    refine lv_iconst (v := nI 2) hx hb dL_isDone_140 (by decide) ?_
    refine n_icmp_ge (tgt := 223) hx hb (by omega) (by omega) dL_isDone_141 (by decide) (fun c_141 => ?_) (fun c_141 => ?_)
    · skip
      exact kk H locs ls h (lv_sub hl [0, 1, 2, 3, 4, 5, 6, 7, 8, 9, 10, 11, 12, 13, 14, 15, 16, 17, 18] rfl)
    · skip
      exact absurd hno (by omega)

set_option maxHeartbeats 4000000 in
set_option maxRecDepth 100000 in
theorem dn_b (X : Cx p s mth args meth c cL_isDone yL_isDone.cls 26 D tc dz A) (hR1 : 14 ≤ R.frames) (hR2 : 462 ≤ R.locals) (hcR : cells + 0 ≤ R.cells) (hsR : slots + 0 ≤ R.slots) (hL : LV gm Ks) (hst : l.stackTraces = false) (hW : LW gm Ks) (hG2 : GM2 gm) (Z : Mem) (V : Nat → BS) (acts : Nat → Act) (z n m t : Nat) (ac mcs : Nat → Nat) (cn : Nat) (hS : LWS Z gm V acts z n m t ac mcs cn) (hcn : cn < 58) (b at9 : Nat) (what one two three : Nat) (h40 : what < 40) (h60 : one < 6000) (h70 : two < 7000) (h80 : three < 8000) (dv en : Nat) (hdv : dv ≤ 6) (hen : en ≤ 2) (kn : Bool) (hno : 16 ≤ what) (h : Sx D A ad Ks (lay tc ad gm dz (LL Z)) s H locs) (hl : lv_has ls 26 [(18, .int (bI kn)), (17, .int (nI en)), (16, .int (nI dv)), (15, .int (nI three)), (14, .int (nI two)), (13, .int (nI one)), (12, .int (nI what)), (0, .ref (ad (0, 0, 0, 0))), (1, .ref b), (2, .int (nI at9)), (3, .ref (ad (35, 0, 0, 0))), (4, .ref (ad (37, 0, 0, 0))), (5, .ref (ad (39, 0, 0, 0))), (6, .ref (ad (43, 0, 0, 0))), (7, .ref (ad (44, 0, 0, 0))), (8, .ref (ad (41, 0, 0, 0))), (9, .ref (ad (42, 0, 0, 0))), (10, .ref (ad (40, 0, 0, 0))), (11, .ref (ad (45, 0, 0, 0)))])
    (kk : ∀ (H1 : Heap) (locs1 : List Loc) (ls1 : Array Slot), Sx D A ad Ks (lay tc ad gm dz (LL Z)) s H1 locs1 → lv_has ls1 26 [(18, .int (bI kn)), (17, .int (nI en)), (16, .int (nI dv)), (15, .int (nI three)), (14, .int (nI two)), (13, .int (nI one)), (12, .int (nI what)), (0, .ref (ad (0, 0, 0, 0))), (1, .ref b), (2, .int (nI at9)), (3, .ref (ad (35, 0, 0, 0))), (4, .ref (ad (37, 0, 0, 0))), (5, .ref (ad (39, 0, 0, 0))), (6, .ref (ad (43, 0, 0, 0))), (7, .ref (ad (44, 0, 0, 0))), (8, .ref (ad (41, 0, 0, 0))), (9, .ref (ad (42, 0, 0, 0))), (10, .ref (ad (40, 0, 0, 0))), (11, .ref (ad (45, 0, 0, 0)))] → W p l e R s mth args below meth c H1 locs1 cells slots Q (F0 mth 515 ls1 [])) : W p l e R s mth args below meth c H locs cells slots Q (F0 mth 223 ls []) := by
  have hok := hS.2.1
  have hn2 := hS.2.2.1
  have hm10 := hS.2.2.2
  have hN := nr_of hS.1.1
  have ht9 : t ≤ 2000 := by have := hS.1.2.2.2.2.2.2.2.2.2.1; omega
  have hBK := lb_bk (G := Z) hS.1 (fun _ _ => rfl)
  have hR9 := lb_rel0 (G := Z) hS.1.1 (fun _ _ => rfl)
  obtain ⟨hx, hb, hmaxL, hown, hts⟩ := id X.1
  refine lv_iload hx hb dL_isDone_223 (lv_at hl 6 rfl) ?_
  refine lv_bipush (v := nI 16) hx hb dL_isDone_225 (by decide) ?_
  refine n_icmp_ge (tgt := 515) hx hb (by omega) (by omega) dL_isDone_227 (by decide) (fun _ => ?_) (fun c => absurd hno (by omega))
  exact kk H locs ls h (lv_sub hl [0, 1, 2, 3, 4, 5, 6, 7, 8, 9, 10, 11, 12, 13, 14, 15, 16, 17, 18] rfl)

set_option maxHeartbeats 4000000 in
set_option maxRecDepth 100000 in
theorem dn_c (X : Cx p s mth args meth c cL_isDone yL_isDone.cls 26 D tc dz A) (hR1 : 14 ≤ R.frames) (hR2 : 462 ≤ R.locals) (hcR : cells + 0 ≤ R.cells) (hsR : slots + 0 ≤ R.slots) (hL : LV gm Ks) (hst : l.stackTraces = false) (hW : LW gm Ks) (hG2 : GM2 gm) (Z : Mem) (V : Nat → BS) (acts : Nat → Act) (z n m t : Nat) (ac mcs : Nat → Nat) (cn : Nat) (hS : LWS Z gm V acts z n m t ac mcs cn) (hcn : cn < 58) (b at9 : Nat) (what one two three : Nat) (h40 : what < 40) (h60 : one < 6000) (h70 : two < 7000) (h80 : three < 8000) (dv en : Nat) (hdv : dv ≤ 6) (hen : en ≤ 2) (kn : Bool) (hno : 20 ≤ what) (h : Sx D A ad Ks (lay tc ad gm dz (LL Z)) s H locs) (hl : lv_has ls 26 [(18, .int (bI kn)), (17, .int (nI en)), (16, .int (nI dv)), (15, .int (nI three)), (14, .int (nI two)), (13, .int (nI one)), (12, .int (nI what)), (0, .ref (ad (0, 0, 0, 0))), (1, .ref b), (2, .int (nI at9)), (3, .ref (ad (35, 0, 0, 0))), (4, .ref (ad (37, 0, 0, 0))), (5, .ref (ad (39, 0, 0, 0))), (6, .ref (ad (43, 0, 0, 0))), (7, .ref (ad (44, 0, 0, 0))), (8, .ref (ad (41, 0, 0, 0))), (9, .ref (ad (42, 0, 0, 0))), (10, .ref (ad (40, 0, 0, 0))), (11, .ref (ad (45, 0, 0, 0)))])
    (kk : ∀ (H1 : Heap) (locs1 : List Loc) (ls1 : Array Slot), Sx D A ad Ks (lay tc ad gm dz (LL Z)) s H1 locs1 → lv_has ls1 26 [(18, .int (bI kn)), (17, .int (nI en)), (16, .int (nI dv)), (15, .int (nI three)), (14, .int (nI two)), (13, .int (nI one)), (12, .int (nI what)), (0, .ref (ad (0, 0, 0, 0))), (1, .ref b), (2, .int (nI at9)), (3, .ref (ad (35, 0, 0, 0))), (4, .ref (ad (37, 0, 0, 0))), (5, .ref (ad (39, 0, 0, 0))), (6, .ref (ad (43, 0, 0, 0))), (7, .ref (ad (44, 0, 0, 0))), (8, .ref (ad (41, 0, 0, 0))), (9, .ref (ad (42, 0, 0, 0))), (10, .ref (ad (40, 0, 0, 0))), (11, .ref (ad (45, 0, 0, 0)))] → W p l e R s mth args below meth c H1 locs1 cells slots Q (F0 mth 746 ls1 [])) : W p l e R s mth args below meth c H locs cells slots Q (F0 mth 515 ls []) := by
  have hok := hS.2.1
  have hn2 := hS.2.2.1
  have hm10 := hS.2.2.2
  have hN := nr_of hS.1.1
  have ht9 : t ≤ 2000 := by have := hS.1.2.2.2.2.2.2.2.2.2.1; omega
  have hBK := lb_bk (G := Z) hS.1 (fun _ _ => rfl)
  have hR9 := lb_rel0 (G := Z) hS.1.1 (fun _ _ => rfl)
  obtain ⟨hx, hb, hmaxL, hown, hts⟩ := id X.1
  refine lv_iload hx hb dL_isDone_515 (lv_at hl 6 rfl) ?_
  refine lv_bipush (v := nI 20) hx hb dL_isDone_517 (by decide) ?_
  refine n_icmp_ge (tgt := 746) hx hb (by omega) (by omega) dL_isDone_519 (by decide) (fun _ => ?_) (fun c => absurd hno (by omega))
  exact kk H locs ls h (lv_sub hl [0, 1, 2, 3, 4, 5, 6, 7, 8, 9, 10, 11, 12, 13, 14, 15, 16, 17, 18] rfl)

set_option maxHeartbeats 4000000 in
set_option maxRecDepth 100000 in
theorem dn_d (X : Cx p s mth args meth c cL_isDone yL_isDone.cls 26 D tc dz A) (hR1 : 14 ≤ R.frames) (hR2 : 462 ≤ R.locals) (hcR : cells + 0 ≤ R.cells) (hsR : slots + 0 ≤ R.slots) (hL : LV gm Ks) (hst : l.stackTraces = false) (hW : LW gm Ks) (hG2 : GM2 gm) (Z : Mem) (V : Nat → BS) (acts : Nat → Act) (z n m t : Nat) (ac mcs : Nat → Nat) (cn : Nat) (hS : LWS Z gm V acts z n m t ac mcs cn) (hcn : cn < 58) (b at9 : Nat) (what one two three : Nat) (h40 : what < 40) (h60 : one < 6000) (h70 : two < 7000) (h80 : three < 8000) (dv en : Nat) (hdv : dv ≤ 6) (hen : en ≤ 2) (kn : Bool) (hno : 25 ≤ what) (h : Sx D A ad Ks (lay tc ad gm dz (LL Z)) s H locs) (hl : lv_has ls 26 [(18, .int (bI kn)), (17, .int (nI en)), (16, .int (nI dv)), (15, .int (nI three)), (14, .int (nI two)), (13, .int (nI one)), (12, .int (nI what)), (0, .ref (ad (0, 0, 0, 0))), (1, .ref b), (2, .int (nI at9)), (3, .ref (ad (35, 0, 0, 0))), (4, .ref (ad (37, 0, 0, 0))), (5, .ref (ad (39, 0, 0, 0))), (6, .ref (ad (43, 0, 0, 0))), (7, .ref (ad (44, 0, 0, 0))), (8, .ref (ad (41, 0, 0, 0))), (9, .ref (ad (42, 0, 0, 0))), (10, .ref (ad (40, 0, 0, 0))), (11, .ref (ad (45, 0, 0, 0)))])
    (kk : ∀ (H1 : Heap) (locs1 : List Loc) (ls1 : Array Slot), Sx D A ad Ks (lay tc ad gm dz (LL Z)) s H1 locs1 → lv_has ls1 26 [(18, .int (bI kn)), (17, .int (nI en)), (16, .int (nI dv)), (15, .int (nI three)), (14, .int (nI two)), (13, .int (nI one)), (12, .int (nI what)), (0, .ref (ad (0, 0, 0, 0))), (1, .ref b), (2, .int (nI at9)), (3, .ref (ad (35, 0, 0, 0))), (4, .ref (ad (37, 0, 0, 0))), (5, .ref (ad (39, 0, 0, 0))), (6, .ref (ad (43, 0, 0, 0))), (7, .ref (ad (44, 0, 0, 0))), (8, .ref (ad (41, 0, 0, 0))), (9, .ref (ad (42, 0, 0, 0))), (10, .ref (ad (40, 0, 0, 0))), (11, .ref (ad (45, 0, 0, 0)))] → W p l e R s mth args below meth c H1 locs1 cells slots Q (F0 mth 1061 ls1 [])) : W p l e R s mth args below meth c H locs cells slots Q (F0 mth 746 ls []) := by
  have hok := hS.2.1
  have hn2 := hS.2.2.1
  have hm10 := hS.2.2.2
  have hN := nr_of hS.1.1
  have ht9 : t ≤ 2000 := by have := hS.1.2.2.2.2.2.2.2.2.2.1; omega
  have hBK := lb_bk (G := Z) hS.1 (fun _ _ => rfl)
  have hR9 := lb_rel0 (G := Z) hS.1.1 (fun _ _ => rfl)
  obtain ⟨hx, hb, hmaxL, hown, hts⟩ := id X.1
  refine lv_iload hx hb dL_isDone_746 (lv_at hl 6 rfl) ?_
  refine lv_bipush (v := nI 25) hx hb dL_isDone_748 (by decide) ?_
  refine n_icmp_ge (tgt := 1061) hx hb (by omega) (by omega) dL_isDone_750 (by decide) (fun _ => ?_) (fun c => absurd hno (by omega))
  exact kk H locs ls h (lv_sub hl [0, 1, 2, 3, 4, 5, 6, 7, 8, 9, 10, 11, 12, 13, 14, 15, 16, 17, 18] rfl)

set_option maxHeartbeats 4000000 in
set_option maxRecDepth 100000 in
theorem dn_e (X : Cx p s mth args meth c cL_isDone yL_isDone.cls 26 D tc dz A) (hR1 : 14 ≤ R.frames) (hR2 : 462 ≤ R.locals) (hcR : cells + 0 ≤ R.cells) (hsR : slots + 0 ≤ R.slots) (hL : LV gm Ks) (hst : l.stackTraces = false) (hW : LW gm Ks) (hG2 : GM2 gm) (Z : Mem) (V : Nat → BS) (acts : Nat → Act) (z n m t : Nat) (ac mcs : Nat → Nat) (cn : Nat) (hS : LWS Z gm V acts z n m t ac mcs cn) (hcn : cn < 58) (b at9 : Nat) (what one two three : Nat) (h40 : what < 40) (h60 : one < 6000) (h70 : two < 7000) (h80 : three < 8000) (dv en : Nat) (hdv : dv ≤ 6) (hen : en ≤ 2) (kn : Bool) (hno : 37 ≤ what) (h : Sx D A ad Ks (lay tc ad gm dz (LL Z)) s H locs) (hl : lv_has ls 26 [(18, .int (bI kn)), (17, .int (nI en)), (16, .int (nI dv)), (15, .int (nI three)), (14, .int (nI two)), (13, .int (nI one)), (12, .int (nI what)), (0, .ref (ad (0, 0, 0, 0))), (1, .ref b), (2, .int (nI at9)), (3, .ref (ad (35, 0, 0, 0))), (4, .ref (ad (37, 0, 0, 0))), (5, .ref (ad (39, 0, 0, 0))), (6, .ref (ad (43, 0, 0, 0))), (7, .ref (ad (44, 0, 0, 0))), (8, .ref (ad (41, 0, 0, 0))), (9, .ref (ad (42, 0, 0, 0))), (10, .ref (ad (40, 0, 0, 0))), (11, .ref (ad (45, 0, 0, 0)))])
    (kk : ∀ (H1 : Heap) (locs1 : List Loc) (ls1 : Array Slot), Sx D A ad Ks (lay tc ad gm dz (LL Z)) s H1 locs1 → lv_has ls1 26 [(18, .int (bI kn)), (17, .int (nI en)), (16, .int (nI dv)), (15, .int (nI three)), (14, .int (nI two)), (13, .int (nI one)), (12, .int (nI what)), (0, .ref (ad (0, 0, 0, 0))), (1, .ref b), (2, .int (nI at9)), (3, .ref (ad (35, 0, 0, 0))), (4, .ref (ad (37, 0, 0, 0))), (5, .ref (ad (39, 0, 0, 0))), (6, .ref (ad (43, 0, 0, 0))), (7, .ref (ad (44, 0, 0, 0))), (8, .ref (ad (41, 0, 0, 0))), (9, .ref (ad (42, 0, 0, 0))), (10, .ref (ad (40, 0, 0, 0))), (11, .ref (ad (45, 0, 0, 0)))] → W p l e R s mth args below meth c H1 locs1 cells slots Q (F0 mth 1112 ls1 [])) : W p l e R s mth args below meth c H locs cells slots Q (F0 mth 1061 ls []) := by
  have hok := hS.2.1
  have hn2 := hS.2.2.1
  have hm10 := hS.2.2.2
  have hN := nr_of hS.1.1
  have ht9 : t ≤ 2000 := by have := hS.1.2.2.2.2.2.2.2.2.2.1; omega
  have hBK := lb_bk (G := Z) hS.1 (fun _ _ => rfl)
  have hR9 := lb_rel0 (G := Z) hS.1.1 (fun _ _ => rfl)
  obtain ⟨hx, hb, hmaxL, hown, hts⟩ := id X.1
  refine lv_iload hx hb dL_isDone_1061 (lv_at hl 6 rfl) ?_
  refine lv_bipush (v := nI 37) hx hb dL_isDone_1063 (by decide) ?_
  refine n_icmp_ge (tgt := 1112) hx hb (by omega) (by omega) dL_isDone_1065 (by decide) (fun _ => ?_) (fun c => absurd hno (by omega))
  exact kk H locs ls h (lv_sub hl [0, 1, 2, 3, 4, 5, 6, 7, 8, 9, 10, 11, 12, 13, 14, 15, 16, 17, 18] rfl)

set_option maxHeartbeats 4000000 in
set_option maxRecDepth 100000 in
theorem dt_entI (X : Cx p s mth args meth c cL_isDone yL_isDone.cls 26 D tc dz A) (hR1 : 14 ≤ R.frames) (hR2 : 462 ≤ R.locals) (hcR : cells + 1 ≤ R.cells) (hsR : slots + 6 ≤ R.slots) (hL : LV gm Ks) (hst : l.stackTraces = false) (hW : LW gm Ks) (hG2 : GM2 gm) (Z : Mem) (V : Nat → BS) (acts : Nat → Act) (z n m t : Nat) (ac mcs : Nat → Nat) (cn : Nat) (hS : LWS Z gm V acts z n m t ac mcs cn) (hcn : cn < 58) (b at9 : Nat) (what one two three : Nat) (h40 : what < 40) (h60 : one < 6000) (h70 : two < 7000) (h80 : three < 8000) (dv en : Nat) (hdv : dv ≤ 6) (hen : en ≤ 2) (kn : Bool) (hw3 : what < 3) (hn : n < 2) (h6 : dv = 6) (h : Sx D A ad Ks (lay tc ad gm dz (LL Z)) s H locs) (hl : lv_has ls 26 [(18, .int (bI kn)), (17, .int (nI en)), (16, .int (nI dv)), (15, .int (nI three)), (14, .int (nI two)), (13, .int (nI one)), (12, .int (nI what)), (0, .ref (ad (0, 0, 0, 0))), (1, .ref b), (2, .int (nI at9)), (3, .ref (ad (35, 0, 0, 0))), (4, .ref (ad (37, 0, 0, 0))), (5, .ref (ad (39, 0, 0, 0))), (6, .ref (ad (43, 0, 0, 0))), (7, .ref (ad (44, 0, 0, 0))), (8, .ref (ad (41, 0, 0, 0))), (9, .ref (ad (42, 0, 0, 0))), (10, .ref (ad (40, 0, 0, 0))), (11, .ref (ad (45, 0, 0, 0)))])
    (kk : ∀ (H1 : Heap) (locs1 : List Loc) (ls1 : Array Slot), Sx D A ad Ks (lay tc ad gm dz (LL Z)) s H1 locs1 → W p l e R s mth args below meth c H1 locs1 (cells + 1) (slots + 6) Q (F0 mth 222 ls1 [.int (bI true)])) : W p l e R s mth args below meth c H locs cells slots Q (F0 mth 130 ls []) := by
  have hok := hS.2.1
  have hn2 := hS.2.2.1
  have hm10 := hS.2.2.2
  have hN := nr_of hS.1.1
  have ht9 : t ≤ 2000 := by have := hS.1.2.2.2.2.2.2.2.2.2.1; omega
  have hBK := lb_bk (G := Z) hS.1 (fun _ _ => rfl)
  have hR9 := lb_rel0 (G := Z) hS.1.1 (fun _ _ => rfl)
  obtain ⟨hx, hb, hmaxL, hown, hts⟩ := id X.1
  refine lv_iload hx hb dL_isDone_130 (lv_at hl 6 rfl) ?_
  refine lv_iconst (v := nI 3) hx hb dL_isDone_132 (by decide) ?_
  refine n_icmp_ge (tgt := 223) hx hb (by omega) (by omega) dL_isDone_133 (by decide) (fun c => absurd hw3 (by omega)) (fun _ => ?_)
  refine lv_aload hx hb dL_isDone_136 (lv_at hl 18 rfl) ?_
  refine lv_iconst (v := nI 0) hx hb dL_isDone_138 (by decide) ?_
  refine y_ald X h (fun _ => rfl) (by decide) (hL (45, 0, 0, 0) ⟨by decide, rfl, rfl, rfl⟩) (by omega) (v := nI n) (gc_0.trans hN.1) dL_isDone_139 ?_
  refine lv_iconst (v := nI 2) hx hb dL_isDone_140 (by decide) ?_
  refine n_icmp_ge (tgt := 223) hx hb (by omega) (by omega) dL_isDone_141 (by decide) (fun c => absurd hn (by omega)) (fun _ => ?_)
  refine lv_iload hx hb dL_isDone_144 (lv_at hl 2 rfl) ?_
  refine lv_bipush (v := nI 6) hx hb dL_isDone_146 (by decide) ?_
  refine n_icmp_ge (tgt := 185) hx hb (by omega) (by omega) dL_isDone_148 (by decide) (fun _ => ?_) (fun c => absurd h6 (by omega))
  refine lv_aload_n hx hb dL_isDone_185 rfl (lv_at hl 7 rfl) ?_
  refine lv_iconst (v := nI 0) hx hb dL_isDone_186 (by decide) ?_
  refine lv_iload hx hb dL_isDone_187 (lv_at hl 2 rfl) ?_
  refine lv_iconst (v := nI 0) hx hb dL_isDone_189 (by decide) ?_
  refine lv_iconst (v := nI 0) hx hb dL_isDone_190 (by decide) ?_
  refine lv_iconst (v := nI 0) hx hb dL_isDone_191 (by decide) ?_
  refine x_doneI X h (x_runSH (n := 6) X h (w_does_entry_I (LL Z) hL (lv := 9) (by decide) (nI dv) (nI 0) (nI 0) (nI 0) (x_X6_entry_1 (LL Z) hst hL hG2.ok n mcs hBK (nI dv) (by rw [h6]; decide)) _) q378 q5 q376 q377 ⟨by decide, by decide, by decide +kernel⟩ rfl (Nat.le_trans (by decide) hR1) (Nat.le_trans (by decide) hR2) ⟨by omega, by omega⟩ hl.1 (Nat.le_of_ble_eq_true rfl) dL_isDone_192 rfl) (fun H locs h => ?_)
  refine lv_iload hx hb dL_isDone_195 (lv_at hl 2 rfl) ?_
  refine lv_bipush (v := nI 6) hx hb dL_isDone_197 (by decide) ?_
  refine n_icmp_ge (tgt := 211) hx hb (by omega) (by omega) dL_isDone_199 (by decide) (fun _ => ?_) (fun c => absurd h6 (by omega))
  refine lv_sipush (v := (-300)) hx hb dL_isDone_211 (by decide) ?_
  refine lv_icmp_ne (tgt := 221) hx hb dL_isDone_214 (by decide) (fun c => absurd rfl c) (fun _ => ?_)
  refine lv_iconst (v := nI 1) hx hb dL_isDone_217 (by decide) ?_
  refine lv_goto (tgt := 222) hx hb dL_isDone_218 (by decide) ?_
  exact kk H locs ls h

set_option maxHeartbeats 4000000 in
set_option maxRecDepth 100000 in
theorem dn_5 (X : Cx p s mth args meth c cL_isDone yL_isDone.cls 26 D tc dz A) (hR1 : 14 ≤ R.frames) (hR2 : 462 ≤ R.locals) (hcR : cells + 0 ≤ R.cells) (hsR : slots + 0 ≤ R.slots) (hL : LV gm Ks) (hst : l.stackTraces = false) (hW : LW gm Ks) (hG2 : GM2 gm) (Z : Mem) (V : Nat → BS) (acts : Nat → Act) (z n m t : Nat) (ac mcs : Nat → Nat) (cn : Nat) (hS : LWS Z gm V acts z n m t ac mcs cn) (hcn : cn < 58) (b at9 : Nat) (what one two three : Nat) (h40 : what < 40) (h60 : one < 6000) (h70 : two < 7000) (h80 : three < 8000) (dv en : Nat) (hdv : dv ≤ 6) (hen : en ≤ 2) (kn : Bool) (hw : what < 16) (h : Sx D A ad Ks (lay tc ad gm dz (LL Z)) s H locs) (hl : lv_has ls 26 [(18, .int (bI kn)), (17, .int (nI en)), (16, .int (nI dv)), (15, .int (nI three)), (14, .int (nI two)), (13, .int (nI one)), (12, .int (nI what)), (0, .ref (ad (0, 0, 0, 0))), (1, .ref b), (2, .int (nI at9)), (3, .ref (ad (35, 0, 0, 0))), (4, .ref (ad (37, 0, 0, 0))), (5, .ref (ad (39, 0, 0, 0))), (6, .ref (ad (43, 0, 0, 0))), (7, .ref (ad (44, 0, 0, 0))), (8, .ref (ad (41, 0, 0, 0))), (9, .ref (ad (42, 0, 0, 0))), (10, .ref (ad (40, 0, 0, 0))), (11, .ref (ad (45, 0, 0, 0)))])
    (kk : ∀ (fl : Nat), fl ≤ 4 → ∀ (H1 : Heap) (locs1 : List Loc) (ls1 : Array Slot), Sx D A ad Ks (lay tc ad gm dz (LL Z)) s H1 locs1 → lv_has ls1 26 [(19, .int (nI fl)), (18, .int (bI kn)), (17, .int (nI en)), (16, .int (nI dv)), (15, .int (nI three)), (14, .int (nI two)), (13, .int (nI one)), (12, .int (nI what)), (0, .ref (ad (0, 0, 0, 0))), (1, .ref b), (2, .int (nI at9)), (3, .ref (ad (35, 0, 0, 0))), (4, .ref (ad (37, 0, 0, 0))), (5, .ref (ad (39, 0, 0, 0))), (6, .ref (ad (43, 0, 0, 0))), (7, .ref (ad (44, 0, 0, 0))), (8, .ref (ad (41, 0, 0, 0))), (9, .ref (ad (42, 0, 0, 0))), (10, .ref (ad (40, 0, 0, 0))), (11, .ref (ad (45, 0, 0, 0)))] → W p l e R s mth args below meth c H1 locs1 cells slots Q (F0 mth 251 ls1 [])) : W p l e R s mth args below meth c H locs cells slots Q (F0 mth 223 ls []) := by
  have hok := hS.2.1
  have hn2 := hS.2.2.1
  have hm10 := hS.2.2.2
  have hN := nr_of hS.1.1
  have ht9 : t ≤ 2000 := by have := hS.1.2.2.2.2.2.2.2.2.2.1; omega
  have hBK := lb_bk (G := Z) hS.1 (fun _ _ => rfl)
  have hR9 := lb_rel0 (G := Z) hS.1.1 (fun _ _ => rfl)
  obtain ⟨hx, hb, hmaxL, hown, hts⟩ := id X.1
  refine lv_iload hx hb dL_isDone_223 (lv_at hl 6 rfl) ?_
  refine lv_bipush (v := nI 16) hx hb dL_isDone_225 (by decide) ?_
  refine n_icmp_ge (tgt := 515) hx hb (by omega) (by omega) dL_isDone_227 (by decide) (fun c => absurd hw (by omega)) (fun _ => ?_)
  refine lv_iload hx hb dL_isDone_230 (lv_at hl 4 rfl) ?_
  refine lv_bipush (v := nI 40) hx hb dL_isDone_232 (by decide) ?_
  refine n_irem hx hb (by omega) (by omega) (by omega) dL_isDone_234 ?_
  refine lv_iconst (v := nI 3) hx hb dL_isDone_235 (by decide) ?_
  refine n_icmp_ne (tgt := 243) hx hb (by omega) (by omega) dL_isDone_236 (by decide) (fun c_236 => ?_) (fun c_236 => ?_)
  · skip
    refine lv_iload hx hb dL_isDone_243 (lv_at hl 4 rfl) ?_
    refine lv_iconst (v := nI 2) hx hb dL_isDone_245 (by decide) ?_
    refine n_idiv hx hb (by omega) (by omega) (by omega) dL_isDone_246 ?_
    refine lv_iconst (v := nI 4) hx hb dL_isDone_247 (by decide) ?_
    refine n_irem hx hb (by omega) (by omega) (by omega) dL_isDone_248 ?_
    refine lv_istore (lv' := [(19, .int (nI ((two / 2) % 4))), (18, .int (bI kn)), (17, .int (nI en)), (16, .int (nI dv)), (15, .int (nI three)), (14, .int (nI two)), (13, .int (nI one)), (12, .int (nI what)), (0, .ref (ad (0, 0, 0, 0))), (1, .ref b), (2, .int (nI at9)), (3, .ref (ad (35, 0, 0, 0))), (4, .ref (ad (37, 0, 0, 0))), (5, .ref (ad (39, 0, 0, 0))), (6, .ref (ad (43, 0, 0, 0))), (7, .ref (ad (44, 0, 0, 0))), (8, .ref (ad (41, 0, 0, 0))), (9, .ref (ad (42, 0, 0, 0))), (10, .ref (ad (40, 0, 0, 0))), (11, .ref (ad (45, 0, 0, 0)))]) hx hb dL_isDone_249 hl (by decide) rfl (fun ls hl => ?_)
    exact kk ((two / 2) % 4) (by omega) H locs ls h (lv_sub hl [0, 1, 2, 3, 4, 5, 6, 7, 8, 9, 10, 11, 12, 13, 14, 15, 16, 17, 18, 19] rfl)
  · skip
    refine lv_iconst (v := nI 4) hx hb dL_isDone_239 (by decide) ?_
    refine lv_goto (tgt := 249) hx hb dL_isDone_240 (by decide) ?_
    refine lv_istore (lv' := [(19, .int (nI 4)), (18, .int (bI kn)), (17, .int (nI en)), (16, .int (nI dv)), (15, .int (nI three)), (14, .int (nI two)), (13, .int (nI one)), (12, .int (nI what)), (0, .ref (ad (0, 0, 0, 0))), (1, .ref b), (2, .int (nI at9)), (3, .ref (ad (35, 0, 0, 0))), (4, .ref (ad (37, 0, 0, 0))), (5, .ref (ad (39, 0, 0, 0))), (6, .ref (ad (43, 0, 0, 0))), (7, .ref (ad (44, 0, 0, 0))), (8, .ref (ad (41, 0, 0, 0))), (9, .ref (ad (42, 0, 0, 0))), (10, .ref (ad (40, 0, 0, 0))), (11, .ref (ad (45, 0, 0, 0)))]) hx hb dL_isDone_249 hl (by decide) rfl (fun ls hl => ?_)
    exact kk (4) (by omega) H locs ls h (lv_sub hl [0, 1, 2, 3, 4, 5, 6, 7, 8, 9, 10, 11, 12, 13, 14, 15, 16, 17, 18, 19] rfl)

set_option maxHeartbeats 4000000 in
set_option maxRecDepth 100000 in
theorem dn_6 (X : Cx p s mth args meth c cL_isDone yL_isDone.cls 26 D tc dz A) (hR1 : 14 ≤ R.frames) (hR2 : 462 ≤ R.locals) (hcR : cells + 0 ≤ R.cells) (hsR : slots + 0 ≤ R.slots) (hL : LV gm Ks) (hst : l.stackTraces = false) (hW : LW gm Ks) (hG2 : GM2 gm) (Z : Mem) (V : Nat → BS) (acts : Nat → Act) (z n m t : Nat) (ac mcs : Nat → Nat) (cn : Nat) (hS : LWS Z gm V acts z n m t ac mcs cn) (hcn : cn < 58) (b at9 : Nat) (what one two three : Nat) (h40 : what < 40) (h60 : one < 6000) (h70 : two < 7000) (h80 : three < 8000) (dv en : Nat) (hdv : dv ≤ 6) (hen : en ≤ 2) (kn : Bool) (fl : Nat) (h : Sx D A ad Ks (lay tc ad gm dz (LL Z)) s H locs) (hl : lv_has ls 26 [(19, .int (nI fl)), (18, .int (bI kn)), (17, .int (nI en)), (16, .int (nI dv)), (15, .int (nI three)), (14, .int (nI two)), (13, .int (nI one)), (12, .int (nI what)), (0, .ref (ad (0, 0, 0, 0))), (1, .ref b), (2, .int (nI at9)), (3, .ref (ad (35, 0, 0, 0))), (4, .ref (ad (37, 0, 0, 0))), (5, .ref (ad (39, 0, 0, 0))), (6, .ref (ad (43, 0, 0, 0))), (7, .ref (ad (44, 0, 0, 0))), (8, .ref (ad (41, 0, 0, 0))), (9, .ref (ad (42, 0, 0, 0))), (10, .ref (ad (40, 0, 0, 0))), (11, .ref (ad (45, 0, 0, 0)))])
    (kk : ∀ (rt9 : Bool), ∀ (H1 : Heap) (locs1 : List Loc) (ls1 : Array Slot), Sx D A ad Ks (lay tc ad gm dz (LL Z)) s H1 locs1 → lv_has ls1 26 [(20, .int (bI rt9)), (19, .int (nI fl)), (18, .int (bI kn)), (17, .int (nI en)), (16, .int (nI dv)), (15, .int (nI three)), (14, .int (nI two)), (13, .int (nI one)), (12, .int (nI what)), (0, .ref (ad (0, 0, 0, 0))), (1, .ref b), (2, .int (nI at9)), (3, .ref (ad (35, 0, 0, 0))), (4, .ref (ad (37, 0, 0, 0))), (5, .ref (ad (39, 0, 0, 0))), (6, .ref (ad (43, 0, 0, 0))), (7, .ref (ad (44, 0, 0, 0))), (8, .ref (ad (41, 0, 0, 0))), (9, .ref (ad (42, 0, 0, 0))), (10, .ref (ad (40, 0, 0, 0))), (11, .ref (ad (45, 0, 0, 0)))] → W p l e R s mth args below meth c H1 locs1 cells slots Q (F0 mth 266 ls1 [])) : W p l e R s mth args below meth c H locs cells slots Q (F0 mth 251 ls []) := by
  have hok := hS.2.1
  have hn2 := hS.2.2.1
  have hm10 := hS.2.2.2
  have hN := nr_of hS.1.1
  have ht9 : t ≤ 2000 := by have := hS.1.2.2.2.2.2.2.2.2.2.1; omega
  have hBK := lb_bk (G := Z) hS.1 (fun _ _ => rfl)
  have hR9 := lb_rel0 (G := Z) hS.1.1 (fun _ _ => rfl)
  obtain ⟨hx, hb, hmaxL, hown, hts⟩ := id X.1
  refine lv_iload hx hb dL_isDone_251 (lv_at hl 4 rfl) ?_
  refine lv_bipush (v := nI 30) hx hb dL_isDone_253 (by decide) ?_
  refine n_irem hx hb (by omega) (by omega) (by omega) dL_isDone_255 ?_
  refine lv_if_le (tgt := 263) hx hb dL_isDone_256 (by decide) (fun c_256 => ?_) (fun c_256 => ?_)
  · skip
    refine lv_iconst (v := nI 0) hx hb dL_isDone_263 (by decide) ?_
    refine lv_istore (lv' := [(20, .int (nI 0)), (19, .int (nI fl)), (18, .int (bI kn)), (17, .int (nI en)), (16, .int (nI dv)), (15, .int (nI three)), (14, .int (nI two)), (13, .int (nI one)), (12, .int (nI what)), (0, .ref (ad (0, 0, 0, 0))), (1, .ref b), (2, .int (nI at9)), (3, .ref (ad (35, 0, 0, 0))), (4, .ref (ad (37, 0, 0, 0))), (5, .ref (ad (39, 0, 0, 0))), (6, .ref (ad (43, 0, 0, 0))), (7, .ref (ad (44, 0, 0, 0))), (8, .ref (ad (41, 0, 0, 0))), (9, .ref (ad (42, 0, 0, 0))), (10, .ref (ad (40, 0, 0, 0))), (11, .ref (ad (45, 0, 0, 0)))]) hx hb dL_isDone_264 hl (by decide) rfl (fun ls hl => ?_)
    exact kk false H locs ls h (lv_sub hl [0, 1, 2, 3, 4, 5, 6, 7, 8, 9, 10, 11, 12, 13, 14, 15, 16, 17, 18, 19, 20] rfl)
  · skip
    refine lv_iconst (v := nI 1) hx hb dL_isDone_259 (by decide) ?_
    refine lv_goto (tgt := 264) hx hb dL_isDone_260 (by decide) ?_
    refine lv_istore (lv' := [(20, .int (nI 1)), (19, .int (nI fl)), (18, .int (bI kn)), (17, .int (nI en)), (16, .int (nI dv)), (15, .int (nI three)), (14, .int (nI two)), (13, .int (nI one)), (12, .int (nI what)), (0, .ref (ad (0, 0, 0, 0))), (1, .ref b), (2, .int (nI at9)), (3, .ref (ad (35, 0, 0, 0))), (4, .ref (ad (37, 0, 0, 0))), (5, .ref (ad (39, 0, 0, 0))), (6, .ref (ad (43, 0, 0, 0))), (7, .ref (ad (44, 0, 0, 0))), (8, .ref (ad (41, 0, 0, 0))), (9, .ref (ad (42, 0, 0, 0))), (10, .ref (ad (40, 0, 0, 0))), (11, .ref (ad (45, 0, 0, 0)))]) hx hb dL_isDone_264 hl (by decide) rfl (fun ls hl => ?_)
    exact kk true H locs ls h (lv_sub hl [0, 1, 2, 3, 4, 5, 6, 7, 8, 9, 10, 11, 12, 13, 14, 15, 16, 17, 18, 19, 20] rfl)

set_option maxHeartbeats 4000000 in
set_option maxRecDepth 100000 in
theorem dt_telI0 (X : Cx p s mth args meth c cL_isDone yL_isDone.cls 26 D tc dz A) (hR1 : 14 ≤ R.frames) (hR2 : 462 ≤ R.locals) (hcR : cells + 1 ≤ R.cells) (hsR : slots + 6 ≤ R.slots) (hL : LV gm Ks) (hst : l.stackTraces = false) (hW : LW gm Ks) (hG2 : GM2 gm) (Z : Mem) (V : Nat → BS) (acts : Nat → Act) (z n m t : Nat) (ac mcs : Nat → Nat) (cn : Nat) (hS : LWS Z gm V acts z n m t ac mcs cn) (hcn : cn < 58) (b at9 : Nat) (what one two three : Nat) (h40 : what < 40) (h60 : one < 6000) (h70 : two < 7000) (h80 : three < 8000) (dv en : Nat) (hdv : dv ≤ 6) (hen : en ≤ 2) (fl : Nat) (hfl : fl ≤ 4) (rt9 : Bool) (hck : ckn (LL Z) 0 n (nI dv) (nI en) = false) (h : Sx D A ad Ks (lay tc ad gm dz (LL Z)) s H locs) (hl : lv_has ls 26 [(20, .int (bI rt9)), (19, .int (nI fl)), (18, .int (bI false)), (17, .int (nI en)), (16, .int (nI dv)), (15, .int (nI three)), (14, .int (nI two)), (13, .int (nI one)), (12, .int (nI what)), (0, .ref (ad (0, 0, 0, 0))), (1, .ref b), (2, .int (nI at9)), (3, .ref (ad (35, 0, 0, 0))), (4, .ref (ad (37, 0, 0, 0))), (5, .ref (ad (39, 0, 0, 0))), (6, .ref (ad (43, 0, 0, 0))), (7, .ref (ad (44, 0, 0, 0))), (8, .ref (ad (41, 0, 0, 0))), (9, .ref (ad (42, 0, 0, 0))), (10, .ref (ad (40, 0, 0, 0))), (11, .ref (ad (45, 0, 0, 0)))])
    (kk : ∀ (H1 : Heap) (locs1 : List Loc) (ls1 : Array Slot), Sx D A ad Ks (lay tc ad gm dz (LL Z)) s H1 locs1 → W p l e R s mth args below meth c H1 locs1 (cells + 1) (slots + 6) Q (F0 mth 514 ls1 [.int (bI true)])) : W p l e R s mth args below meth c H locs cells slots Q (F0 mth 266 ls []) := by
  have hok := hS.2.1
  have hn2 := hS.2.2.1
  have hm10 := hS.2.2.2
  have hN := nr_of hS.1.1
  have ht9 : t ≤ 2000 := by have := hS.1.2.2.2.2.2.2.2.2.2.1; omega
  have hBK := lb_bk (G := Z) hS.1 (fun _ _ => rfl)
  have hR9 := lb_rel0 (G := Z) hS.1.1 (fun _ _ => rfl)
  have hac9 := hS.1.2.2.2.2.2.2.2.2.2.2.1 dv
  obtain ⟨hx, hb, hmaxL, hown, hts⟩ := id X.1
  refine lv_iload hx hb dL_isDone_266 (lv_at hl 2 rfl) ?_
  refine b_if_eq (tgt := 300) hx hb dL_isDone_268 (by decide) (fun _ => ?_) (fun c => (Bool.noConfusion c))
  refine lv_iconst (v := nI 0) hx hb dL_isDone_300 (by decide) ?_
  refine lv_istore (lv' := [(21, .int (nI 0)), (20, .int (bI rt9)), (19, .int (nI fl)), (18, .int (bI false)), (17, .int (nI en)), (16, .int (nI dv)), (15, .int (nI three)), (14, .int (nI two)), (13, .int (nI one)), (12, .int (nI what)), (0, .ref (ad (0, 0, 0, 0))), (1, .ref b), (2, .int (nI at9)), (3, .ref (ad (35, 0, 0, 0))), (4, .ref (ad (37, 0, 0, 0))), (5, .ref (ad (39, 0, 0, 0))), (6, .ref (ad (43, 0, 0, 0))), (7, .ref (ad (44, 0, 0, 0))), (8, .ref (ad (41, 0, 0, 0))), (9, .ref (ad (42, 0, 0, 0))), (10, .ref (ad (40, 0, 0, 0))), (11, .ref (ad (45, 0, 0, 0)))]) hx hb dL_isDone_301 hl (by decide) rfl (fun ls hl => ?_)
  refine lv_iload hx hb dL_isDone_303 (lv_at hl 5 rfl) ?_
  refine lv_bipush (v := nI 6) hx hb dL_isDone_305 (by decide) ?_
  refine n_icmp_ge (tgt := 322) hx hb (by omega) (by omega) dL_isDone_307 (by decide) (fun c_307 => ?_) (fun c_307 => ?_)
  · skip
    refine lv_iconst (v := nI 0) hx hb dL_isDone_322 (by decide) ?_
    refine lv_istore (lv' := [(22, .int (nI 0)), (21, .int (nI 0)), (20, .int (bI rt9)), (19, .int (nI fl)), (18, .int (bI false)), (17, .int (nI en)), (16, .int (nI dv)), (15, .int (nI three)), (14, .int (nI two)), (13, .int (nI one)), (12, .int (nI what)), (0, .ref (ad (0, 0, 0, 0))), (1, .ref b), (2, .int (nI at9)), (3, .ref (ad (35, 0, 0, 0))), (4, .ref (ad (37, 0, 0, 0))), (5, .ref (ad (39, 0, 0, 0))), (6, .ref (ad (43, 0, 0, 0))), (7, .ref (ad (44, 0, 0, 0))), (8, .ref (ad (41, 0, 0, 0))), (9, .ref (ad (42, 0, 0, 0))), (10, .ref (ad (40, 0, 0, 0))), (11, .ref (ad (45, 0, 0, 0)))]) hx hb dL_isDone_323 hl (by decide) rfl (fun ls hl => ?_)
    refine lv_iload hx hb dL_isDone_325 (lv_at hl 2 rfl) ?_
    refine b_if_ne (tgt := 336) hx hb dL_isDone_327 (by decide) (fun c_327 => ?_) (fun c_327 => ?_)
    · skip
      refine lv_iload hx hb dL_isDone_336 (lv_at hl 7 rfl) ?_
      refine lv_bipush (v := nI 6) hx hb dL_isDone_338 (by decide) ?_
      refine n_irem hx hb (by omega) (by omega) (by omega) dL_isDone_340 ?_
      refine n_if_ne (tgt := 348) hx hb (by omega) dL_isDone_341 (by decide) (fun c_341 => ?_) (fun c_341 => ?_)
      · skip
        refine lv_iload hx hb dL_isDone_348 (lv_at hl 6 rfl) ?_
        refine lv_bipush (v := nI 6) hx hb dL_isDone_350 (by decide) ?_
        refine n_icmp_ge (tgt := 365) hx hb (by omega) (by omega) dL_isDone_352 (by decide) (fun c_352 => ?_) (fun c_352 => ?_)
        · skip
          refine lv_iconst (v := nI 0) hx hb dL_isDone_365 (by decide) ?_
          refine lv_istore (lv' := [(23, .int (nI 0)), (22, .int (nI 0)), (21, .int (nI 0)), (20, .int (bI rt9)), (19, .int (nI fl)), (18, .int (bI false)), (17, .int (nI en)), (16, .int (nI dv)), (15, .int (nI three)), (14, .int (nI two)), (13, .int (nI one)), (12, .int (nI what)), (0, .ref (ad (0, 0, 0, 0))), (1, .ref b), (2, .int (nI at9)), (3, .ref (ad (35, 0, 0, 0))), (4, .ref (ad (37, 0, 0, 0))), (5, .ref (ad (39, 0, 0, 0))), (6, .ref (ad (43, 0, 0, 0))), (7, .ref (ad (44, 0, 0, 0))), (8, .ref (ad (41, 0, 0, 0))), (9, .ref (ad (42, 0, 0, 0))), (10, .ref (ad (40, 0, 0, 0))), (11, .ref (ad (45, 0, 0, 0)))]) hx hb dL_isDone_366 hl (by decide) rfl (fun ls hl => ?_)
          refine lv_iload hx hb dL_isDone_368 (lv_at hl 5 rfl) ?_
          refine b_if_eq (tgt := 379) hx hb dL_isDone_370 (by decide) (fun _ => ?_) (fun c => (Bool.noConfusion c))
          refine lv_sipush (v := (-300)) hx hb dL_isDone_379 (by decide) ?_
          refine lv_goto (tgt := 420) hx hb dL_isDone_382 (by decide) ?_
          refine lv_istore (lv' := [(24, .int (-300)), (23, .int (nI 0)), (22, .int (nI 0)), (21, .int (nI 0)), (20, .int (bI rt9)), (19, .int (nI fl)), (18, .int (bI false)), (17, .int (nI en)), (16, .int (nI dv)), (15, .int (nI three)), (14, .int (nI two)), (13, .int (nI one)), (12, .int (nI what)), (0, .ref (ad (0, 0, 0, 0))), (1, .ref b), (2, .int (nI at9)), (3, .ref (ad (35, 0, 0, 0))), (4, .ref (ad (37, 0, 0, 0))), (5, .ref (ad (39, 0, 0, 0))), (6, .ref (ad (43, 0, 0, 0))), (7, .ref (ad (44, 0, 0, 0))), (8, .ref (ad (41, 0, 0, 0))), (9, .ref (ad (42, 0, 0, 0))), (10, .ref (ad (40, 0, 0, 0))), (11, .ref (ad (45, 0, 0, 0)))]) hx hb dL_isDone_420 hl (by decide) rfl (fun ls hl => ?_)
          refine lv_iload hx hb dL_isDone_422 (lv_at hl 3 rfl) ?_
          refine lv_if_eq (tgt := 491) hx hb dL_isDone_424 (by decide) (fun _ => ?_) (fun c => absurd c (by decide))
          refine lv_aload_n hx hb dL_isDone_491 rfl (lv_at hl 13 rfl) ?_
          refine lv_iconst (v := nI 1) hx hb dL_isDone_492 (by decide) ?_
          refine lv_iload hx hb dL_isDone_493 (lv_at hl 8 rfl) ?_
          refine lv_iload hx hb dL_isDone_495 (lv_at hl 7 rfl) ?_
          refine lv_iload hx hb dL_isDone_497 (lv_at hl 5 rfl) ?_
          refine lv_iload hx hb dL_isDone_499 (lv_at hl 1 rfl) ?_
          refine x_doneI X h (x_runSH (n := 6) X h (w_does_tell_I (LL Z) hL (lv := 9) (by decide) (nI dv) (nI en) (nI fl) (nI 0) (x_X6_tell_1 (LL Z) hst hL hG2.ok n mcs hBK (nI dv) (nI en) (nI fl) (nI 0) (by rw [hck, Bool.false_and])) _) q378 q5 q376 q377 ⟨by decide, by decide, by decide +kernel⟩ rfl (Nat.le_trans (by decide) hR1) (Nat.le_trans (by decide) hR2) ⟨by omega, by omega⟩ hl.1 (Nat.le_of_ble_eq_true rfl) dL_isDone_501 rfl) (fun H locs h => ?_)
          refine lv_iload hx hb dL_isDone_504 (lv_at hl 0 rfl) ?_
          refine lv_icmp_ne (tgt := 513) hx hb dL_isDone_506 (by decide) (fun c => absurd rfl c) (fun _ => ?_)
          refine lv_iconst (v := nI 1) hx hb dL_isDone_509 (by decide) ?_
          refine lv_goto (tgt := 514) hx hb dL_isDone_510 (by decide) ?_
          exact kk H locs ls h
        · skip
          refine lv_iload hx hb dL_isDone_355 (lv_at hl 6 rfl) ?_
          refine lv_iload hx hb dL_isDone_357 (lv_at hl 0 rfl) ?_
          refine x_doneI X h (x_runS X h (m_L_value (LL Z) dv 0 (by omega) (by omega) _) F_L_value q760 q761 rfl (Nat.le_trans (by decide) hR1) (Nat.le_trans (by decide) hR2) ⟨by omega, by omega⟩ hl.1 (Nat.le_of_ble_eq_true rfl) dL_isDone_359 rfl) (fun H locs h => ?_)
          refine lv_goto (tgt := 366) hx hb dL_isDone_362 (by decide) ?_
          refine lv_istore (lv' := [(23, .int (nI ((100 * dv + 37 * 0) % 1000))), (22, .int (nI 0)), (21, .int (nI 0)), (20, .int (bI rt9)), (19, .int (nI fl)), (18, .int (bI false)), (17, .int (nI en)), (16, .int (nI dv)), (15, .int (nI three)), (14, .int (nI two)), (13, .int (nI one)), (12, .int (nI what)), (0, .ref (ad (0, 0, 0, 0))), (1, .ref b), (2, .int (nI at9)), (3, .ref (ad (35, 0, 0, 0))), (4, .ref (ad (37, 0, 0, 0))), (5, .ref (ad (39, 0, 0, 0))), (6, .ref (ad (43, 0, 0, 0))), (7, .ref (ad (44, 0, 0, 0))), (8, .ref (ad (41, 0, 0, 0))), (9, .ref (ad (42, 0, 0, 0))), (10, .ref (ad (40, 0, 0, 0))), (11, .ref (ad (45, 0, 0, 0)))]) hx hb dL_isDone_366 hl (by decide) rfl (fun ls hl => ?_)
          refine lv_iload hx hb dL_isDone_368 (lv_at hl 5 rfl) ?_
          refine b_if_eq (tgt := 379) hx hb dL_isDone_370 (by decide) (fun _ => ?_) (fun c => (Bool.noConfusion c))
          refine lv_sipush (v := (-300)) hx hb dL_isDone_379 (by decide) ?_
          refine lv_goto (tgt := 420) hx hb dL_isDone_382 (by decide) ?_
          refine lv_istore (lv' := [(24, .int (-300)), (23, .int (nI ((100 * dv + 37 * 0) % 1000))), (22, .int (nI 0)), (21, .int (nI 0)), (20, .int (bI rt9)), (19, .int (nI fl)), (18, .int (bI false)), (17, .int (nI en)), (16, .int (nI dv)), (15, .int (nI three)), (14, .int (nI two)), (13, .int (nI one)), (12, .int (nI what)), (0, .ref (ad (0, 0, 0, 0))), (1, .ref b), (2, .int (nI at9)), (3, .ref (ad (35, 0, 0, 0))), (4, .ref (ad (37, 0, 0, 0))), (5, .ref (ad (39, 0, 0, 0))), (6, .ref (ad (43, 0, 0, 0))), (7, .ref (ad (44, 0, 0, 0))), (8, .ref (ad (41, 0, 0, 0))), (9, .ref (ad (42, 0, 0, 0))), (10, .ref (ad (40, 0, 0, 0))), (11, .ref (ad (45, 0, 0, 0)))]) hx hb dL_isDone_420 hl (by decide) rfl (fun ls hl => ?_)
          refine lv_iload hx hb dL_isDone_422 (lv_at hl 3 rfl) ?_
          refine lv_if_eq (tgt := 491) hx hb dL_isDone_424 (by decide) (fun _ => ?_) (fun c => absurd c (by decide))
          refine lv_aload_n hx hb dL_isDone_491 rfl (lv_at hl 13 rfl) ?_
          refine lv_iconst (v := nI 1) hx hb dL_isDone_492 (by decide) ?_
          refine lv_iload hx hb dL_isDone_493 (lv_at hl 8 rfl) ?_
          refine lv_iload hx hb dL_isDone_495 (lv_at hl 7 rfl) ?_
          refine lv_iload hx hb dL_isDone_497 (lv_at hl 5 rfl) ?_
          refine lv_iload hx hb dL_isDone_499 (lv_at hl 1 rfl) ?_
          refine x_doneI X h (x_runSH (n := 6) X h (w_does_tell_I (LL Z) hL (lv := 9) (by decide) (nI dv) (nI en) (nI fl) (nI ((100 * dv + 37 * 0) % 1000)) (x_X6_tell_1 (LL Z) hst hL hG2.ok n mcs hBK (nI dv) (nI en) (nI fl) (nI ((100 * dv + 37 * 0) % 1000)) (by rw [hck, Bool.false_and])) _) q378 q5 q376 q377 ⟨by decide, by decide, by decide +kernel⟩ rfl (Nat.le_trans (by decide) hR1) (Nat.le_trans (by decide) hR2) ⟨by omega, by omega⟩ hl.1 (Nat.le_of_ble_eq_true rfl) dL_isDone_501 rfl) (fun H locs h => ?_)
          refine lv_iload hx hb dL_isDone_504 (lv_at hl 0 rfl) ?_
          refine lv_icmp_ne (tgt := 513) hx hb dL_isDone_506 (by decide) (fun c => absurd rfl c) (fun _ => ?_)
          refine lv_iconst (v := nI 1) hx hb dL_isDone_509 (by decide) ?_
          refine lv_goto (tgt := 514) hx hb dL_isDone_510 (by decide) ?_
          exact kk H locs ls h
      · skip
        refine lv_iconst (v := (-1)) hx hb dL_isDone_344 (by decide) ?_
        refine lv_goto (tgt := 366) hx hb dL_isDone_345 (by decide) ?_
        refine lv_istore (lv' := [(23, .int (-1)), (22, .int (nI 0)), (21, .int (nI 0)), (20, .int (bI rt9)), (19, .int (nI fl)), (18, .int (bI false)), (17, .int (nI en)), (16, .int (nI dv)), (15, .int (nI three)), (14, .int (nI two)), (13, .int (nI one)), (12, .int (nI what)), (0, .ref (ad (0, 0, 0, 0))), (1, .ref b), (2, .int (nI at9)), (3, .ref (ad (35, 0, 0, 0))), (4, .ref (ad (37, 0, 0, 0))), (5, .ref (ad (39, 0, 0, 0))), (6, .ref (ad (43, 0, 0, 0))), (7, .ref (ad (44, 0, 0, 0))), (8, .ref (ad (41, 0, 0, 0))), (9, .ref (ad (42, 0, 0, 0))), (10, .ref (ad (40, 0, 0, 0))), (11, .ref (ad (45, 0, 0, 0)))]) hx hb dL_isDone_366 hl (by decide) rfl (fun ls hl => ?_)
        refine lv_iload hx hb dL_isDone_368 (lv_at hl 5 rfl) ?_
        refine b_if_eq (tgt := 379) hx hb dL_isDone_370 (by decide) (fun _ => ?_) (fun c => (Bool.noConfusion c))
        refine lv_sipush (v := (-300)) hx hb dL_isDone_379 (by decide) ?_
        refine lv_goto (tgt := 420) hx hb dL_isDone_382 (by decide) ?_
        refine lv_istore (lv' := [(24, .int (-300)), (23, .int (-1)), (22, .int (nI 0)), (21, .int (nI 0)), (20, .int (bI rt9)), (19, .int (nI fl)), (18, .int (bI false)), (17, .int (nI en)), (16, .int (nI dv)), (15, .int (nI three)), (14, .int (nI two)), (13, .int (nI one)), (12, .int (nI what)), (0, .ref (ad (0, 0, 0, 0))), (1, .ref b), (2, .int (nI at9)), (3, .ref (ad (35, 0, 0, 0))), (4, .ref (ad (37, 0, 0, 0))), (5, .ref (ad (39, 0, 0, 0))), (6, .ref (ad (43, 0, 0, 0))), (7, .ref (ad (44, 0, 0, 0))), (8, .ref (ad (41, 0, 0, 0))), (9, .ref (ad (42, 0, 0, 0))), (10, .ref (ad (40, 0, 0, 0))), (11, .ref (ad (45, 0, 0, 0)))]) hx hb dL_isDone_420 hl (by decide) rfl (fun ls hl => ?_)
        refine lv_iload hx hb dL_isDone_422 (lv_at hl 3 rfl) ?_
        refine lv_if_eq (tgt := 491) hx hb dL_isDone_424 (by decide) (fun _ => ?_) (fun c => absurd c (by decide))
        refine lv_aload_n hx hb dL_isDone_491 rfl (lv_at hl 13 rfl) ?_
        refine lv_iconst (v := nI 1) hx hb dL_isDone_492 (by decide) ?_
        refine lv_iload hx hb dL_isDone_493 (lv_at hl 8 rfl) ?_
        refine lv_iload hx hb dL_isDone_495 (lv_at hl 7 rfl) ?_
        refine lv_iload hx hb dL_isDone_497 (lv_at hl 5 rfl) ?_
        refine lv_iload hx hb dL_isDone_499 (lv_at hl 1 rfl) ?_
        refine x_doneI X h (x_runSH (n := 6) X h (w_does_tell_I (LL Z) hL (lv := 9) (by decide) (nI dv) (nI en) (nI fl) (-1) (x_X6_tell_1 (LL Z) hst hL hG2.ok n mcs hBK (nI dv) (nI en) (nI fl) (-1) (by rw [hck, Bool.false_and])) _) q378 q5 q376 q377 ⟨by decide, by decide, by decide +kernel⟩ rfl (Nat.le_trans (by decide) hR1) (Nat.le_trans (by decide) hR2) ⟨by omega, by omega⟩ hl.1 (Nat.le_of_ble_eq_true rfl) dL_isDone_501 rfl) (fun H locs h => ?_)
        refine lv_iload hx hb dL_isDone_504 (lv_at hl 0 rfl) ?_
        refine lv_icmp_ne (tgt := 513) hx hb dL_isDone_506 (by decide) (fun c => absurd rfl c) (fun _ => ?_)
        refine lv_iconst (v := nI 1) hx hb dL_isDone_509 (by decide) ?_
        refine lv_goto (tgt := 514) hx hb dL_isDone_510 (by decide) ?_
        exact kk H locs ls h
    · skip
      refine lv_sipush (v := nI 1000) hx hb dL_isDone_330 (by decide) ?_
      refine lv_goto (tgt := 366) hx hb dL_isDone_333 (by decide) ?_
      refine lv_istore (lv' := [(23, .int (nI 1000)), (22, .int (nI 0)), (21, .int (nI 0)), (20, .int (bI rt9)), (19, .int (nI fl)), (18, .int (bI false)), (17, .int (nI en)), (16, .int (nI dv)), (15, .int (nI three)), (14, .int (nI two)), (13, .int (nI one)), (12, .int (nI what)), (0, .ref (ad (0, 0, 0, 0))), (1, .ref b), (2, .int (nI at9)), (3, .ref (ad (35, 0, 0, 0))), (4, .ref (ad (37, 0, 0, 0))), (5, .ref (ad (39, 0, 0, 0))), (6, .ref (ad (43, 0, 0, 0))), (7, .ref (ad (44, 0, 0, 0))), (8, .ref (ad (41, 0, 0, 0))), (9, .ref (ad (42, 0, 0, 0))), (10, .ref (ad (40, 0, 0, 0))), (11, .ref (ad (45, 0, 0, 0)))]) hx hb dL_isDone_366 hl (by decide) rfl (fun ls hl => ?_)
      refine lv_iload hx hb dL_isDone_368 (lv_at hl 5 rfl) ?_
      refine b_if_eq (tgt := 379) hx hb dL_isDone_370 (by decide) (fun _ => ?_) (fun c => (Bool.noConfusion c))
      refine lv_sipush (v := (-300)) hx hb dL_isDone_379 (by decide) ?_
      refine lv_goto (tgt := 420) hx hb dL_isDone_382 (by decide) ?_
      refine lv_istore (lv' := [(24, .int (-300)), (23, .int (nI 1000)), (22, .int (nI 0)), (21, .int (nI 0)), (20, .int (bI rt9)), (19, .int (nI fl)), (18, .int (bI false)), (17, .int (nI en)), (16, .int (nI dv)), (15, .int (nI three)), (14, .int (nI two)), (13, .int (nI one)), (12, .int (nI what)), (0, .ref (ad (0, 0, 0, 0))), (1, .ref b), (2, .int (nI at9)), (3, .ref (ad (35, 0, 0, 0))), (4, .ref (ad (37, 0, 0, 0))), (5, .ref (ad (39, 0, 0, 0))), (6, .ref (ad (43, 0, 0, 0))), (7, .ref (ad (44, 0, 0, 0))), (8, .ref (ad (41, 0, 0, 0))), (9, .ref (ad (42, 0, 0, 0))), (10, .ref (ad (40, 0, 0, 0))), (11, .ref (ad (45, 0, 0, 0)))]) hx hb dL_isDone_420 hl (by decide) rfl (fun ls hl => ?_)
      refine lv_iload hx hb dL_isDone_422 (lv_at hl 3 rfl) ?_
      refine lv_if_eq (tgt := 491) hx hb dL_isDone_424 (by decide) (fun _ => ?_) (fun c => absurd c (by decide))
      refine lv_aload_n hx hb dL_isDone_491 rfl (lv_at hl 13 rfl) ?_
      refine lv_iconst (v := nI 1) hx hb dL_isDone_492 (by decide) ?_
      refine lv_iload hx hb dL_isDone_493 (lv_at hl 8 rfl) ?_
      refine lv_iload hx hb dL_isDone_495 (lv_at hl 7 rfl) ?_
      refine lv_iload hx hb dL_isDone_497 (lv_at hl 5 rfl) ?_
      refine lv_iload hx hb dL_isDone_499 (lv_at hl 1 rfl) ?_
      refine x_doneI X h (x_runSH (n := 6) X h (w_does_tell_I (LL Z) hL (lv := 9) (by decide) (nI dv) (nI en) (nI fl) (nI 1000) (x_X6_tell_1 (LL Z) hst hL hG2.ok n mcs hBK (nI dv) (nI en) (nI fl) (nI 1000) (by rw [hck, Bool.false_and])) _) q378 q5 q376 q377 ⟨by decide, by decide, by decide +kernel⟩ rfl (Nat.le_trans (by decide) hR1) (Nat.le_trans (by decide) hR2) ⟨by omega, by omega⟩ hl.1 (Nat.le_of_ble_eq_true rfl) dL_isDone_501 rfl) (fun H locs h => ?_)
      refine lv_iload hx hb dL_isDone_504 (lv_at hl 0 rfl) ?_
      refine lv_icmp_ne (tgt := 513) hx hb dL_isDone_506 (by decide) (fun c => absurd rfl c) (fun _ => ?_)
      refine lv_iconst (v := nI 1) hx hb dL_isDone_509 (by decide) ?_
      refine lv_goto (tgt := 514) hx hb dL_isDone_510 (by decide) ?_
      exact kk H locs ls h
  · skip
    refine lv_aload hx hb dL_isDone_310 (lv_at hl 21 rfl) ?_
    refine lv_iconst (v := nI 3) hx hb dL_isDone_312 (by decide) ?_
    refine lv_iload hx hb dL_isDone_313 (lv_at hl 5 rfl) ?_
    refine n_iadd hx hb dL_isDone_315 ?_
    refine y_ald X h (fun _ => rfl) (by decide) (hL (45, 0, 0, 0) ⟨by decide, rfl, rfl, rfl⟩) (by omega) (v := nI (ac dv)) (gc_3.trans (hS.1.1.gl.aJ dv (by omega))) dL_isDone_316 ?_
    refine lv_iconst (v := nI 1) hx hb dL_isDone_317 (by decide) ?_
    refine n_iadd hx hb dL_isDone_318 ?_
    refine lv_goto (tgt := 323) hx hb dL_isDone_319 (by decide) ?_
    refine lv_istore (lv' := [(22, .int (nI ((ac dv) + 1))), (21, .int (nI 0)), (20, .int (bI rt9)), (19, .int (nI fl)), (18, .int (bI false)), (17, .int (nI en)), (16, .int (nI dv)), (15, .int (nI three)), (14, .int (nI two)), (13, .int (nI one)), (12, .int (nI what)), (0, .ref (ad (0, 0, 0, 0))), (1, .ref b), (2, .int (nI at9)), (3, .ref (ad (35, 0, 0, 0))), (4, .ref (ad (37, 0, 0, 0))), (5, .ref (ad (39, 0, 0, 0))), (6, .ref (ad (43, 0, 0, 0))), (7, .ref (ad (44, 0, 0, 0))), (8, .ref (ad (41, 0, 0, 0))), (9, .ref (ad (42, 0, 0, 0))), (10, .ref (ad (40, 0, 0, 0))), (11, .ref (ad (45, 0, 0, 0)))]) hx hb dL_isDone_323 hl (by decide) rfl (fun ls hl => ?_)
    refine lv_iload hx hb dL_isDone_325 (lv_at hl 2 rfl) ?_
    refine b_if_ne (tgt := 336) hx hb dL_isDone_327 (by decide) (fun c_327 => ?_) (fun c_327 => ?_)
    · skip
      refine lv_iload hx hb dL_isDone_336 (lv_at hl 7 rfl) ?_
      refine lv_bipush (v := nI 6) hx hb dL_isDone_338 (by decide) ?_
      refine n_irem hx hb (by omega) (by omega) (by omega) dL_isDone_340 ?_
      refine n_if_ne (tgt := 348) hx hb (by omega) dL_isDone_341 (by decide) (fun c_341 => ?_) (fun c_341 => ?_)
      · skip
        refine lv_iload hx hb dL_isDone_348 (lv_at hl 6 rfl) ?_
        refine lv_bipush (v := nI 6) hx hb dL_isDone_350 (by decide) ?_
        refine n_icmp_ge (tgt := 365) hx hb (by omega) (by omega) dL_isDone_352 (by decide) (fun c_352 => ?_) (fun c_352 => ?_)
        · skip
          refine lv_iconst (v := nI 0) hx hb dL_isDone_365 (by decide) ?_
          refine lv_istore (lv' := [(23, .int (nI 0)), (22, .int (nI ((ac dv) + 1))), (21, .int (nI 0)), (20, .int (bI rt9)), (19, .int (nI fl)), (18, .int (bI false)), (17, .int (nI en)), (16, .int (nI dv)), (15, .int (nI three)), (14, .int (nI two)), (13, .int (nI one)), (12, .int (nI what)), (0, .ref (ad (0, 0, 0, 0))), (1, .ref b), (2, .int (nI at9)), (3, .ref (ad (35, 0, 0, 0))), (4, .ref (ad (37, 0, 0, 0))), (5, .ref (ad (39, 0, 0, 0))), (6, .ref (ad (43, 0, 0, 0))), (7, .ref (ad (44, 0, 0, 0))), (8, .ref (ad (41, 0, 0, 0))), (9, .ref (ad (42, 0, 0, 0))), (10, .ref (ad (40, 0, 0, 0))), (11, .ref (ad (45, 0, 0, 0)))]) hx hb dL_isDone_366 hl (by decide) rfl (fun ls hl => ?_)
          refine lv_iload hx hb dL_isDone_368 (lv_at hl 5 rfl) ?_
          refine b_if_eq (tgt := 379) hx hb dL_isDone_370 (by decide) (fun _ => ?_) (fun c => (Bool.noConfusion c))
          refine lv_sipush (v := (-300)) hx hb dL_isDone_379 (by decide) ?_
          refine lv_goto (tgt := 420) hx hb dL_isDone_382 (by decide) ?_
          refine lv_istore (lv' := [(24, .int (-300)), (23, .int (nI 0)), (22, .int (nI ((ac dv) + 1))), (21, .int (nI 0)), (20, .int (bI rt9)), (19, .int (nI fl)), (18, .int (bI false)), (17, .int (nI en)), (16, .int (nI dv)), (15, .int (nI three)), (14, .int (nI two)), (13, .int (nI one)), (12, .int (nI what)), (0, .ref (ad (0, 0, 0, 0))), (1, .ref b), (2, .int (nI at9)), (3, .ref (ad (35, 0, 0, 0))), (4, .ref (ad (37, 0, 0, 0))), (5, .ref (ad (39, 0, 0, 0))), (6, .ref (ad (43, 0, 0, 0))), (7, .ref (ad (44, 0, 0, 0))), (8, .ref (ad (41, 0, 0, 0))), (9, .ref (ad (42, 0, 0, 0))), (10, .ref (ad (40, 0, 0, 0))), (11, .ref (ad (45, 0, 0, 0)))]) hx hb dL_isDone_420 hl (by decide) rfl (fun ls hl => ?_)
          refine lv_iload hx hb dL_isDone_422 (lv_at hl 3 rfl) ?_
          refine lv_if_eq (tgt := 491) hx hb dL_isDone_424 (by decide) (fun _ => ?_) (fun c => absurd c (by decide))
          refine lv_aload_n hx hb dL_isDone_491 rfl (lv_at hl 13 rfl) ?_
          refine lv_iconst (v := nI 1) hx hb dL_isDone_492 (by decide) ?_
          refine lv_iload hx hb dL_isDone_493 (lv_at hl 8 rfl) ?_
          refine lv_iload hx hb dL_isDone_495 (lv_at hl 7 rfl) ?_
          refine lv_iload hx hb dL_isDone_497 (lv_at hl 5 rfl) ?_
          refine lv_iload hx hb dL_isDone_499 (lv_at hl 1 rfl) ?_
          refine x_doneI X h (x_runSH (n := 6) X h (w_does_tell_I (LL Z) hL (lv := 9) (by decide) (nI dv) (nI en) (nI fl) (nI 0) (x_X6_tell_1 (LL Z) hst hL hG2.ok n mcs hBK (nI dv) (nI en) (nI fl) (nI 0) (by rw [hck, Bool.false_and])) _) q378 q5 q376 q377 ⟨by decide, by decide, by decide +kernel⟩ rfl (Nat.le_trans (by decide) hR1) (Nat.le_trans (by decide) hR2) ⟨by omega, by omega⟩ hl.1 (Nat.le_of_ble_eq_true rfl) dL_isDone_501 rfl) (fun H locs h => ?_)
          refine lv_iload hx hb dL_isDone_504 (lv_at hl 0 rfl) ?_
          refine lv_icmp_ne (tgt := 513) hx hb dL_isDone_506 (by decide) (fun c => absurd rfl c) (fun _ => ?_)
          refine lv_iconst (v := nI 1) hx hb dL_isDone_509 (by decide) ?_
          refine lv_goto (tgt := 514) hx hb dL_isDone_510 (by decide) ?_
          exact kk H locs ls h
        · skip
          refine lv_iload hx hb dL_isDone_355 (lv_at hl 6 rfl) ?_
          refine lv_iload hx hb dL_isDone_357 (lv_at hl 0 rfl) ?_
          refine x_doneI X h (x_runS X h (m_L_value (LL Z) dv ((ac dv) + 1) (by omega) (by omega) _) F_L_value q760 q761 rfl (Nat.le_trans (by decide) hR1) (Nat.le_trans (by decide) hR2) ⟨by omega, by omega⟩ hl.1 (Nat.le_of_ble_eq_true rfl) dL_isDone_359 rfl) (fun H locs h => ?_)
          refine lv_goto (tgt := 366) hx hb dL_isDone_362 (by decide) ?_
          refine lv_istore (lv' := [(23, .int (nI ((100 * dv + 37 * ((ac dv) + 1)) % 1000))), (22, .int (nI ((ac dv) + 1))), (21, .int (nI 0)), (20, .int (bI rt9)), (19, .int (nI fl)), (18, .int (bI false)), (17, .int (nI en)), (16, .int (nI dv)), (15, .int (nI three)), (14, .int (nI two)), (13, .int (nI one)), (12, .int (nI what)), (0, .ref (ad (0, 0, 0, 0))), (1, .ref b), (2, .int (nI at9)), (3, .ref (ad (35, 0, 0, 0))), (4, .ref (ad (37, 0, 0, 0))), (5, .ref (ad (39, 0, 0, 0))), (6, .ref (ad (43, 0, 0, 0))), (7, .ref (ad (44, 0, 0, 0))), (8, .ref (ad (41, 0, 0, 0))), (9, .ref (ad (42, 0, 0, 0))), (10, .ref (ad (40, 0, 0, 0))), (11, .ref (ad (45, 0, 0, 0)))]) hx hb dL_isDone_366 hl (by decide) rfl (fun ls hl => ?_)
          refine lv_iload hx hb dL_isDone_368 (lv_at hl 5 rfl) ?_
          refine b_if_eq (tgt := 379) hx hb dL_isDone_370 (by decide) (fun _ => ?_) (fun c => (Bool.noConfusion c))
          refine lv_sipush (v := (-300)) hx hb dL_isDone_379 (by decide) ?_
          refine lv_goto (tgt := 420) hx hb dL_isDone_382 (by decide) ?_
          refine lv_istore (lv' := [(24, .int (-300)), (23, .int (nI ((100 * dv + 37 * ((ac dv) + 1)) % 1000))), (22, .int (nI ((ac dv) + 1))), (21, .int (nI 0)), (20, .int (bI rt9)), (19, .int (nI fl)), (18, .int (bI false)), (17, .int (nI en)), (16, .int (nI dv)), (15, .int (nI three)), (14, .int (nI two)), (13, .int (nI one)), (12, .int (nI what)), (0, .ref (ad (0, 0, 0, 0))), (1, .ref b), (2, .int (nI at9)), (3, .ref (ad (35, 0, 0, 0))), (4, .ref (ad (37, 0, 0, 0))), (5, .ref (ad (39, 0, 0, 0))), (6, .ref (ad (43, 0, 0, 0))), (7, .ref (ad (44, 0, 0, 0))), (8, .ref (ad (41, 0, 0, 0))), (9, .ref (ad (42, 0, 0, 0))), (10, .ref (ad (40, 0, 0, 0))), (11, .ref (ad (45, 0, 0, 0)))]) hx hb dL_isDone_420 hl (by decide) rfl (fun ls hl => ?_)
          refine lv_iload hx hb dL_isDone_422 (lv_at hl 3 rfl) ?_
          refine lv_if_eq (tgt := 491) hx hb dL_isDone_424 (by decide) (fun _ => ?_) (fun c => absurd c (by decide))
          refine lv_aload_n hx hb dL_isDone_491 rfl (lv_at hl 13 rfl) ?_
          refine lv_iconst (v := nI 1) hx hb dL_isDone_492 (by decide) ?_
          refine lv_iload hx hb dL_isDone_493 (lv_at hl 8 rfl) ?_
          refine lv_iload hx hb dL_isDone_495 (lv_at hl 7 rfl) ?_
          refine lv_iload hx hb dL_isDone_497 (lv_at hl 5 rfl) ?_
          refine lv_iload hx hb dL_isDone_499 (lv_at hl 1 rfl) ?_
          refine x_doneI X h (x_runSH (n := 6) X h (w_does_tell_I (LL Z) hL (lv := 9) (by decide) (nI dv) (nI en) (nI fl) (nI ((100 * dv + 37 * ((ac dv) + 1)) % 1000)) (x_X6_tell_1 (LL Z) hst hL hG2.ok n mcs hBK (nI dv) (nI en) (nI fl) (nI ((100 * dv + 37 * ((ac dv) + 1)) % 1000)) (by rw [hck, Bool.false_and])) _) q378 q5 q376 q377 ⟨by decide, by decide, by decide +kernel⟩ rfl (Nat.le_trans (by decide) hR1) (Nat.le_trans (by decide) hR2) ⟨by omega, by omega⟩ hl.1 (Nat.le_of_ble_eq_true rfl) dL_isDone_501 rfl) (fun H locs h => ?_)
          refine lv_iload hx hb dL_isDone_504 (lv_at hl 0 rfl) ?_
          refine lv_icmp_ne (tgt := 513) hx hb dL_isDone_506 (by decide) (fun c => absurd rfl c) (fun _ => ?_)
          refine lv_iconst (v := nI 1) hx hb dL_isDone_509 (by decide) ?_
          refine lv_goto (tgt := 514) hx hb dL_isDone_510 (by decide) ?_
          exact kk H locs ls h
      · skip
        refine lv_iconst (v := (-1)) hx hb dL_isDone_344 (by decide) ?_
        refine lv_goto (tgt := 366) hx hb dL_isDone_345 (by decide) ?_
        refine lv_istore (lv' := [(23, .int (-1)), (22, .int (nI ((ac dv) + 1))), (21, .int (nI 0)), (20, .int (bI rt9)), (19, .int (nI fl)), (18, .int (bI false)), (17, .int (nI en)), (16, .int (nI dv)), (15, .int (nI three)), (14, .int (nI two)), (13, .int (nI one)), (12, .int (nI what)), (0, .ref (ad (0, 0, 0, 0))), (1, .ref b), (2, .int (nI at9)), (3, .ref (ad (35, 0, 0, 0))), (4, .ref (ad (37, 0, 0, 0))), (5, .ref (ad (39, 0, 0, 0))), (6, .ref (ad (43, 0, 0, 0))), (7, .ref (ad (44, 0, 0, 0))), (8, .ref (ad (41, 0, 0, 0))), (9, .ref (ad (42, 0, 0, 0))), (10, .ref (ad (40, 0, 0, 0))), (11, .ref (ad (45, 0, 0, 0)))]) hx hb dL_isDone_366 hl (by decide) rfl (fun ls hl => ?_)
        refine lv_iload hx hb dL_isDone_368 (lv_at hl 5 rfl) ?_
        refine b_if_eq (tgt := 379) hx hb dL_isDone_370 (by decide) (fun _ => ?_) (fun c => (Bool.noConfusion c))
        refine lv_sipush (v := (-300)) hx hb dL_isDone_379 (by decide) ?_
        refine lv_goto (tgt := 420) hx hb dL_isDone_382 (by decide) ?_
        refine lv_istore (lv' := [(24, .int (-300)), (23, .int (-1)), (22, .int (nI ((ac dv) + 1))), (21, .int (nI 0)), (20, .int (bI rt9)), (19, .int (nI fl)), (18, .int (bI false)), (17, .int (nI en)), (16, .int (nI dv)), (15, .int (nI three)), (14, .int (nI two)), (13, .int (nI one)), (12, .int (nI what)), (0, .ref (ad (0, 0, 0, 0))), (1, .ref b), (2, .int (nI at9)), (3, .ref (ad (35, 0, 0, 0))), (4, .ref (ad (37, 0, 0, 0))), (5, .ref (ad (39, 0, 0, 0))), (6, .ref (ad (43, 0, 0, 0))), (7, .ref (ad (44, 0, 0, 0))), (8, .ref (ad (41, 0, 0, 0))), (9, .ref (ad (42, 0, 0, 0))), (10, .ref (ad (40, 0, 0, 0))), (11, .ref (ad (45, 0, 0, 0)))]) hx hb dL_isDone_420 hl (by decide) rfl (fun ls hl => ?_)
        refine lv_iload hx hb dL_isDone_422 (lv_at hl 3 rfl) ?_
        refine lv_if_eq (tgt := 491) hx hb dL_isDone_424 (by decide) (fun _ => ?_) (fun c => absurd c (by decide))
        refine lv_aload_n hx hb dL_isDone_491 rfl (lv_at hl 13 rfl) ?_
        refine lv_iconst (v := nI 1) hx hb dL_isDone_492 (by decide) ?_
        refine lv_iload hx hb dL_isDone_493 (lv_at hl 8 rfl) ?_
        refine lv_iload hx hb dL_isDone_495 (lv_at hl 7 rfl) ?_
        refine lv_iload hx hb dL_isDone_497 (lv_at hl 5 rfl) ?_
        refine lv_iload hx hb dL_isDone_499 (lv_at hl 1 rfl) ?_
        refine x_doneI X h (x_runSH (n := 6) X h (w_does_tell_I (LL Z) hL (lv := 9) (by decide) (nI dv) (nI en) (nI fl) (-1) (x_X6_tell_1 (LL Z) hst hL hG2.ok n mcs hBK (nI dv) (nI en) (nI fl) (-1) (by rw [hck, Bool.false_and])) _) q378 q5 q376 q377 ⟨by decide, by decide, by decide +kernel⟩ rfl (Nat.le_trans (by decide) hR1) (Nat.le_trans (by decide) hR2) ⟨by omega, by omega⟩ hl.1 (Nat.le_of_ble_eq_true rfl) dL_isDone_501 rfl) (fun H locs h => ?_)
        refine lv_iload hx hb dL_isDone_504 (lv_at hl 0 rfl) ?_
        refine lv_icmp_ne (tgt := 513) hx hb dL_isDone_506 (by decide) (fun c => absurd rfl c) (fun _ => ?_)
        refine lv_iconst (v := nI 1) hx hb dL_isDone_509 (by decide) ?_
        refine lv_goto (tgt := 514) hx hb dL_isDone_510 (by decide) ?_
        exact kk H locs ls h
    · skip
      refine lv_sipush (v := nI 1000) hx hb dL_isDone_330 (by decide) ?_
      refine lv_goto (tgt := 366) hx hb dL_isDone_333 (by decide) ?_
      refine lv_istore (lv' := [(23, .int (nI 1000)), (22, .int (nI ((ac dv) + 1))), (21, .int (nI 0)), (20, .int (bI rt9)), (19, .int (nI fl)), (18, .int (bI false)), (17, .int (nI en)), (16, .int (nI dv)), (15, .int (nI three)), (14, .int (nI two)), (13, .int (nI one)), (12, .int (nI what)), (0, .ref (ad (0, 0, 0, 0))), (1, .ref b), (2, .int (nI at9)), (3, .ref (ad (35, 0, 0, 0))), (4, .ref (ad (37, 0, 0, 0))), (5, .ref (ad (39, 0, 0, 0))), (6, .ref (ad (43, 0, 0, 0))), (7, .ref (ad (44, 0, 0, 0))), (8, .ref (ad (41, 0, 0, 0))), (9, .ref (ad (42, 0, 0, 0))), (10, .ref (ad (40, 0, 0, 0))), (11, .ref (ad (45, 0, 0, 0)))]) hx hb dL_isDone_366 hl (by decide) rfl (fun ls hl => ?_)
      refine lv_iload hx hb dL_isDone_368 (lv_at hl 5 rfl) ?_
      refine b_if_eq (tgt := 379) hx hb dL_isDone_370 (by decide) (fun _ => ?_) (fun c => (Bool.noConfusion c))
      refine lv_sipush (v := (-300)) hx hb dL_isDone_379 (by decide) ?_
      refine lv_goto (tgt := 420) hx hb dL_isDone_382 (by decide) ?_
      refine lv_istore (lv' := [(24, .int (-300)), (23, .int (nI 1000)), (22, .int (nI ((ac dv) + 1))), (21, .int (nI 0)), (20, .int (bI rt9)), (19, .int (nI fl)), (18, .int (bI false)), (17, .int (nI en)), (16, .int (nI dv)), (15, .int (nI three)), (14, .int (nI two)), (13, .int (nI one)), (12, .int (nI what)), (0, .ref (ad (0, 0, 0, 0))), (1, .ref b), (2, .int (nI at9)), (3, .ref (ad (35, 0, 0, 0))), (4, .ref (ad (37, 0, 0, 0))), (5, .ref (ad (39, 0, 0, 0))), (6, .ref (ad (43, 0, 0, 0))), (7, .ref (ad (44, 0, 0, 0))), (8, .ref (ad (41, 0, 0, 0))), (9, .ref (ad (42, 0, 0, 0))), (10, .ref (ad (40, 0, 0, 0))), (11, .ref (ad (45, 0, 0, 0)))]) hx hb dL_isDone_420 hl (by decide) rfl (fun ls hl => ?_)
      refine lv_iload hx hb dL_isDone_422 (lv_at hl 3 rfl) ?_
      refine lv_if_eq (tgt := 491) hx hb dL_isDone_424 (by decide) (fun _ => ?_) (fun c => absurd c (by decide))
      refine lv_aload_n hx hb dL_isDone_491 rfl (lv_at hl 13 rfl) ?_
      refine lv_iconst (v := nI 1) hx hb dL_isDone_492 (by decide) ?_
      refine lv_iload hx hb dL_isDone_493 (lv_at hl 8 rfl) ?_
      refine lv_iload hx hb dL_isDone_495 (lv_at hl 7 rfl) ?_
      refine lv_iload hx hb dL_isDone_497 (lv_at hl 5 rfl) ?_
      refine lv_iload hx hb dL_isDone_499 (lv_at hl 1 rfl) ?_
      refine x_doneI X h (x_runSH (n := 6) X h (w_does_tell_I (LL Z) hL (lv := 9) (by decide) (nI dv) (nI en) (nI fl) (nI 1000) (x_X6_tell_1 (LL Z) hst hL hG2.ok n mcs hBK (nI dv) (nI en) (nI fl) (nI 1000) (by rw [hck, Bool.false_and])) _) q378 q5 q376 q377 ⟨by decide, by decide, by decide +kernel⟩ rfl (Nat.le_trans (by decide) hR1) (Nat.le_trans (by decide) hR2) ⟨by omega, by omega⟩ hl.1 (Nat.le_of_ble_eq_true rfl) dL_isDone_501 rfl) (fun H locs h => ?_)
      refine lv_iload hx hb dL_isDone_504 (lv_at hl 0 rfl) ?_
      refine lv_icmp_ne (tgt := 513) hx hb dL_isDone_506 (by decide) (fun c => absurd rfl c) (fun _ => ?_)
      refine lv_iconst (v := nI 1) hx hb dL_isDone_509 (by decide) ?_
      refine lv_goto (tgt := 514) hx hb dL_isDone_510 (by decide) ?_
      exact kk H locs ls h

set_option maxHeartbeats 4000000 in
set_option maxRecDepth 100000 in
theorem dt_telI4 (X : Cx p s mth args meth c cL_isDone yL_isDone.cls 26 D tc dz A) (hR1 : 14 ≤ R.frames) (hR2 : 462 ≤ R.locals) (hcR : cells + 1 ≤ R.cells) (hsR : slots + 6 ≤ R.slots) (hL : LV gm Ks) (hst : l.stackTraces = false) (hW : LW gm Ks) (hG2 : GM2 gm) (Z : Mem) (V : Nat → BS) (acts : Nat → Act) (z n m t : Nat) (ac mcs : Nat → Nat) (cn : Nat) (hS : LWS Z gm V acts z n m t ac mcs cn) (hcn : cn < 58) (b at9 : Nat) (what one two three : Nat) (h40 : what < 40) (h60 : one < 6000) (h70 : two < 7000) (h80 : three < 8000) (dv en : Nat) (hdv : dv ≤ 6) (hen : en ≤ 2) (rt9 : Bool) (hd : dv < 6) (hk : en < n) (h34 : Z (34, 0, 0, 0) (10 * dv + en) = nI 1) (h : Sx D A ad Ks (lay tc ad gm dz (LL Z)) s H locs) (hl : lv_has ls 26 [(20, .int (bI rt9)), (19, .int (nI 4)), (18, .int (bI true)), (17, .int (nI en)), (16, .int (nI dv)), (15, .int (nI three)), (14, .int (nI two)), (13, .int (nI one)), (12, .int (nI what)), (0, .ref (ad (0, 0, 0, 0))), (1, .ref b), (2, .int (nI at9)), (3, .ref (ad (35, 0, 0, 0))), (4, .ref (ad (37, 0, 0, 0))), (5, .ref (ad (39, 0, 0, 0))), (6, .ref (ad (43, 0, 0, 0))), (7, .ref (ad (44, 0, 0, 0))), (8, .ref (ad (41, 0, 0, 0))), (9, .ref (ad (42, 0, 0, 0))), (10, .ref (ad (40, 0, 0, 0))), (11, .ref (ad (45, 0, 0, 0)))])
    (kk : ∀ (H1 : Heap) (locs1 : List Loc) (ls1 : Array Slot), Sx D A ad Ks (lay tc ad gm dz (LL Z)) s H1 locs1 → W p l e R s mth args below meth c H1 locs1 (cells + 1) (slots + 6) Q (F0 mth 514 ls1 [.int (bI true)])) : W p l e R s mth args below meth c H locs cells slots Q (F0 mth 266 ls []) := by
  have hok := hS.2.1
  have hn2 := hS.2.2.1
  have hm10 := hS.2.2.2
  have hN := nr_of hS.1.1
  have ht9 : t ≤ 2000 := by have := hS.1.2.2.2.2.2.2.2.2.2.1; omega
  have hBK := lb_bk (G := Z) hS.1 (fun _ _ => rfl)
  have hR9 := lb_rel0 (G := Z) hS.1.1 (fun _ _ => rfl)
  have hac9 := hS.1.2.2.2.2.2.2.2.2.2.2.1 dv
  have hC := hR9.cp en dv (by omega) hd
  have hkn := ck_yes hC h34
  obtain ⟨hx, hb, hmaxL, hown, hts⟩ := id X.1
  refine lv_iload hx hb dL_isDone_266 (lv_at hl 2 rfl) ?_
  refine b_if_eq (tgt := 300) hx hb dL_isDone_268 (by decide) (fun c => (Bool.noConfusion c)) (fun _ => ?_)
  refine lv_iload hx hb dL_isDone_271 (lv_at hl 1 rfl) ?_
  refine lv_iconst (v := nI 4) hx hb dL_isDone_273 (by decide) ?_
  refine lv_icmp_ge (tgt := 300) hx hb dL_isDone_274 (by decide) (fun _ => ?_) (fun c => absurd c (by decide))
  refine lv_iconst (v := nI 0) hx hb dL_isDone_300 (by decide) ?_
  refine lv_istore (lv' := [(21, .int (nI 0)), (20, .int (bI rt9)), (19, .int (nI 4)), (18, .int (bI true)), (17, .int (nI en)), (16, .int (nI dv)), (15, .int (nI three)), (14, .int (nI two)), (13, .int (nI one)), (12, .int (nI what)), (0, .ref (ad (0, 0, 0, 0))), (1, .ref b), (2, .int (nI at9)), (3, .ref (ad (35, 0, 0, 0))), (4, .ref (ad (37, 0, 0, 0))), (5, .ref (ad (39, 0, 0, 0))), (6, .ref (ad (43, 0, 0, 0))), (7, .ref (ad (44, 0, 0, 0))), (8, .ref (ad (41, 0, 0, 0))), (9, .ref (ad (42, 0, 0, 0))), (10, .ref (ad (40, 0, 0, 0))), (11, .ref (ad (45, 0, 0, 0)))]) hx hb dL_isDone_301 hl (by decide) rfl (fun ls hl => ?_)
  refine lv_iload hx hb dL_isDone_303 (lv_at hl 5 rfl) ?_
  refine lv_bipush (v := nI 6) hx hb dL_isDone_305 (by decide) ?_
  refine n_icmp_ge (tgt := 322) hx hb (by omega) (by omega) dL_isDone_307 (by decide) (fun c => absurd hd (by omega)) (fun _ => ?_)
  refine lv_aload hx hb dL_isDone_310 (lv_at hl 21 rfl) ?_
  refine lv_iconst (v := nI 3) hx hb dL_isDone_312 (by decide) ?_
  refine lv_iload hx hb dL_isDone_313 (lv_at hl 5 rfl) ?_
  refine n_iadd hx hb dL_isDone_315 ?_
  refine y_ald X h (fun _ => rfl) (by decide) (hL (45, 0, 0, 0) ⟨by decide, rfl, rfl, rfl⟩) (by omega) (v := nI (ac dv)) (gc_3.trans (hS.1.1.gl.aJ dv (by omega))) dL_isDone_316 ?_
  refine lv_iconst (v := nI 1) hx hb dL_isDone_317 (by decide) ?_
  refine n_iadd hx hb dL_isDone_318 ?_
  refine lv_goto (tgt := 323) hx hb dL_isDone_319 (by decide) ?_
  refine lv_istore (lv' := [(22, .int (nI ((ac dv) + 1))), (21, .int (nI 0)), (20, .int (bI rt9)), (19, .int (nI 4)), (18, .int (bI true)), (17, .int (nI en)), (16, .int (nI dv)), (15, .int (nI three)), (14, .int (nI two)), (13, .int (nI one)), (12, .int (nI what)), (0, .ref (ad (0, 0, 0, 0))), (1, .ref b), (2, .int (nI at9)), (3, .ref (ad (35, 0, 0, 0))), (4, .ref (ad (37, 0, 0, 0))), (5, .ref (ad (39, 0, 0, 0))), (6, .ref (ad (43, 0, 0, 0))), (7, .ref (ad (44, 0, 0, 0))), (8, .ref (ad (41, 0, 0, 0))), (9, .ref (ad (42, 0, 0, 0))), (10, .ref (ad (40, 0, 0, 0))), (11, .ref (ad (45, 0, 0, 0)))]) hx hb dL_isDone_323 hl (by decide) rfl (fun ls hl => ?_)
  refine lv_iload hx hb dL_isDone_325 (lv_at hl 2 rfl) ?_
  refine b_if_ne (tgt := 336) hx hb dL_isDone_327 (by decide) (fun c_327 => ?_) (fun c_327 => ?_)
  · skip
    refine lv_iload hx hb dL_isDone_336 (lv_at hl 7 rfl) ?_
    refine lv_bipush (v := nI 6) hx hb dL_isDone_338 (by decide) ?_
    refine n_irem hx hb (by omega) (by omega) (by omega) dL_isDone_340 ?_
    refine n_if_ne (tgt := 348) hx hb (by omega) dL_isDone_341 (by decide) (fun c_341 => ?_) (fun c_341 => ?_)
    · skip
      refine lv_iload hx hb dL_isDone_348 (lv_at hl 6 rfl) ?_
      refine lv_bipush (v := nI 6) hx hb dL_isDone_350 (by decide) ?_
      refine n_icmp_ge (tgt := 365) hx hb (by omega) (by omega) dL_isDone_352 (by decide) (fun c => absurd hd (by omega)) (fun _ => ?_)
      refine lv_iload hx hb dL_isDone_355 (lv_at hl 6 rfl) ?_
      refine lv_iload hx hb dL_isDone_357 (lv_at hl 0 rfl) ?_
      refine x_doneI X h (x_runS X h (m_L_value (LL Z) dv ((ac dv) + 1) (by omega) (by omega) _) F_L_value q760 q761 rfl (Nat.le_trans (by decide) hR1) (Nat.le_trans (by decide) hR2) ⟨by omega, by omega⟩ hl.1 (Nat.le_of_ble_eq_true rfl) dL_isDone_359 rfl) (fun H locs h => ?_)
      refine lv_goto (tgt := 366) hx hb dL_isDone_362 (by decide) ?_
      refine lv_istore (lv' := [(23, .int (nI ((100 * dv + 37 * ((ac dv) + 1)) % 1000))), (22, .int (nI ((ac dv) + 1))), (21, .int (nI 0)), (20, .int (bI rt9)), (19, .int (nI 4)), (18, .int (bI true)), (17, .int (nI en)), (16, .int (nI dv)), (15, .int (nI three)), (14, .int (nI two)), (13, .int (nI one)), (12, .int (nI what)), (0, .ref (ad (0, 0, 0, 0))), (1, .ref b), (2, .int (nI at9)), (3, .ref (ad (35, 0, 0, 0))), (4, .ref (ad (37, 0, 0, 0))), (5, .ref (ad (39, 0, 0, 0))), (6, .ref (ad (43, 0, 0, 0))), (7, .ref (ad (44, 0, 0, 0))), (8, .ref (ad (41, 0, 0, 0))), (9, .ref (ad (42, 0, 0, 0))), (10, .ref (ad (40, 0, 0, 0))), (11, .ref (ad (45, 0, 0, 0)))]) hx hb dL_isDone_366 hl (by decide) rfl (fun ls hl => ?_)
      refine lv_iload hx hb dL_isDone_368 (lv_at hl 5 rfl) ?_
      refine b_if_eq (tgt := 379) hx hb dL_isDone_370 (by decide) (fun c => (Bool.noConfusion c)) (fun _ => ?_)
      refine lv_iload hx hb dL_isDone_373 (lv_at hl 4 rfl) ?_
      refine lv_iconst (v := nI 4) hx hb dL_isDone_375 (by decide) ?_
      refine lv_icmp_ne (tgt := 385) hx hb dL_isDone_376 (by decide) (fun c => absurd c (by decide)) (fun _ => ?_)
      refine lv_sipush (v := (-300)) hx hb dL_isDone_379 (by decide) ?_
      refine lv_goto (tgt := 420) hx hb dL_isDone_382 (by decide) ?_
      refine lv_istore (lv' := [(24, .int (-300)), (23, .int (nI ((100 * dv + 37 * ((ac dv) + 1)) % 1000))), (22, .int (nI ((ac dv) + 1))), (21, .int (nI 0)), (20, .int (bI rt9)), (19, .int (nI 4)), (18, .int (bI true)), (17, .int (nI en)), (16, .int (nI dv)), (15, .int (nI three)), (14, .int (nI two)), (13, .int (nI one)), (12, .int (nI what)), (0, .ref (ad (0, 0, 0, 0))), (1, .ref b), (2, .int (nI at9)), (3, .ref (ad (35, 0, 0, 0))), (4, .ref (ad (37, 0, 0, 0))), (5, .ref (ad (39, 0, 0, 0))), (6, .ref (ad (43, 0, 0, 0))), (7, .ref (ad (44, 0, 0, 0))), (8, .ref (ad (41, 0, 0, 0))), (9, .ref (ad (42, 0, 0, 0))), (10, .ref (ad (40, 0, 0, 0))), (11, .ref (ad (45, 0, 0, 0)))]) hx hb dL_isDone_420 hl (by decide) rfl (fun ls hl => ?_)
      refine lv_iload hx hb dL_isDone_422 (lv_at hl 3 rfl) ?_
      refine lv_if_eq (tgt := 491) hx hb dL_isDone_424 (by decide) (fun _ => ?_) (fun c => absurd c (by decide))
      refine lv_aload_n hx hb dL_isDone_491 rfl (lv_at hl 13 rfl) ?_
      refine lv_iconst (v := nI 1) hx hb dL_isDone_492 (by decide) ?_
      refine lv_iload hx hb dL_isDone_493 (lv_at hl 8 rfl) ?_
      refine lv_iload hx hb dL_isDone_495 (lv_at hl 7 rfl) ?_
      refine lv_iload hx hb dL_isDone_497 (lv_at hl 5 rfl) ?_
      refine lv_iload hx hb dL_isDone_499 (lv_at hl 1 rfl) ?_
      refine x_doneI X h (x_runSH (n := 6) X h (w_does_tell_I (LL Z) hL (lv := 9) (by decide) (nI dv) (nI en) (nI 4) (nI ((100 * dv + 37 * ((ac dv) + 1)) % 1000)) (x_X6_tell_1 (LL Z) hst hL hG2.ok n mcs hBK (nI dv) (nI en) (nI 4) (nI ((100 * dv + 37 * ((ac dv) + 1)) % 1000)) (by rw [show isFld (nI 4) = false by decide, Bool.and_false])) _) q378 q5 q376 q377 ⟨by decide, by decide, by decide +kernel⟩ rfl (Nat.le_trans (by decide) hR1) (Nat.le_trans (by decide) hR2) ⟨by omega, by omega⟩ hl.1 (Nat.le_of_ble_eq_true rfl) dL_isDone_501 rfl) (fun H locs h => ?_)
      refine lv_iload hx hb dL_isDone_504 (lv_at hl 0 rfl) ?_
      refine lv_icmp_ne (tgt := 513) hx hb dL_isDone_506 (by decide) (fun c => absurd rfl c) (fun _ => ?_)
      refine lv_iconst (v := nI 1) hx hb dL_isDone_509 (by decide) ?_
      refine lv_goto (tgt := 514) hx hb dL_isDone_510 (by decide) ?_
      exact kk H locs ls h
    · skip
      refine lv_iconst (v := (-1)) hx hb dL_isDone_344 (by decide) ?_
      refine lv_goto (tgt := 366) hx hb dL_isDone_345 (by decide) ?_
      refine lv_istore (lv' := [(23, .int (-1)), (22, .int (nI ((ac dv) + 1))), (21, .int (nI 0)), (20, .int (bI rt9)), (19, .int (nI 4)), (18, .int (bI true)), (17, .int (nI en)), (16, .int (nI dv)), (15, .int (nI three)), (14, .int (nI two)), (13, .int (nI one)), (12, .int (nI what)), (0, .ref (ad (0, 0, 0, 0))), (1, .ref b), (2, .int (nI at9)), (3, .ref (ad (35, 0, 0, 0))), (4, .ref (ad (37, 0, 0, 0))), (5, .ref (ad (39, 0, 0, 0))), (6, .ref (ad (43, 0, 0, 0))), (7, .ref (ad (44, 0, 0, 0))), (8, .ref (ad (41, 0, 0, 0))), (9, .ref (ad (42, 0, 0, 0))), (10, .ref (ad (40, 0, 0, 0))), (11, .ref (ad (45, 0, 0, 0)))]) hx hb dL_isDone_366 hl (by decide) rfl (fun ls hl => ?_)
      refine lv_iload hx hb dL_isDone_368 (lv_at hl 5 rfl) ?_
      refine b_if_eq (tgt := 379) hx hb dL_isDone_370 (by decide) (fun c => (Bool.noConfusion c)) (fun _ => ?_)
      refine lv_iload hx hb dL_isDone_373 (lv_at hl 4 rfl) ?_
      refine lv_iconst (v := nI 4) hx hb dL_isDone_375 (by decide) ?_
      refine lv_icmp_ne (tgt := 385) hx hb dL_isDone_376 (by decide) (fun c => absurd c (by decide)) (fun _ => ?_)
      refine lv_sipush (v := (-300)) hx hb dL_isDone_379 (by decide) ?_
      refine lv_goto (tgt := 420) hx hb dL_isDone_382 (by decide) ?_
      refine lv_istore (lv' := [(24, .int (-300)), (23, .int (-1)), (22, .int (nI ((ac dv) + 1))), (21, .int (nI 0)), (20, .int (bI rt9)), (19, .int (nI 4)), (18, .int (bI true)), (17, .int (nI en)), (16, .int (nI dv)), (15, .int (nI three)), (14, .int (nI two)), (13, .int (nI one)), (12, .int (nI what)), (0, .ref (ad (0, 0, 0, 0))), (1, .ref b), (2, .int (nI at9)), (3, .ref (ad (35, 0, 0, 0))), (4, .ref (ad (37, 0, 0, 0))), (5, .ref (ad (39, 0, 0, 0))), (6, .ref (ad (43, 0, 0, 0))), (7, .ref (ad (44, 0, 0, 0))), (8, .ref (ad (41, 0, 0, 0))), (9, .ref (ad (42, 0, 0, 0))), (10, .ref (ad (40, 0, 0, 0))), (11, .ref (ad (45, 0, 0, 0)))]) hx hb dL_isDone_420 hl (by decide) rfl (fun ls hl => ?_)
      refine lv_iload hx hb dL_isDone_422 (lv_at hl 3 rfl) ?_
      refine lv_if_eq (tgt := 491) hx hb dL_isDone_424 (by decide) (fun _ => ?_) (fun c => absurd c (by decide))
      refine lv_aload_n hx hb dL_isDone_491 rfl (lv_at hl 13 rfl) ?_
      refine lv_iconst (v := nI 1) hx hb dL_isDone_492 (by decide) ?_
      refine lv_iload hx hb dL_isDone_493 (lv_at hl 8 rfl) ?_
      refine lv_iload hx hb dL_isDone_495 (lv_at hl 7 rfl) ?_
      refine lv_iload hx hb dL_isDone_497 (lv_at hl 5 rfl) ?_
      refine lv_iload hx hb dL_isDone_499 (lv_at hl 1 rfl) ?_
      refine x_doneI X h (x_runSH (n := 6) X h (w_does_tell_I (LL Z) hL (lv := 9) (by decide) (nI dv) (nI en) (nI 4) (-1) (x_X6_tell_1 (LL Z) hst hL hG2.ok n mcs hBK (nI dv) (nI en) (nI 4) (-1) (by rw [show isFld (nI 4) = false by decide, Bool.and_false])) _) q378 q5 q376 q377 ⟨by decide, by decide, by decide +kernel⟩ rfl (Nat.le_trans (by decide) hR1) (Nat.le_trans (by decide) hR2) ⟨by omega, by omega⟩ hl.1 (Nat.le_of_ble_eq_true rfl) dL_isDone_501 rfl) (fun H locs h => ?_)
      refine lv_iload hx hb dL_isDone_504 (lv_at hl 0 rfl) ?_
      refine lv_icmp_ne (tgt := 513) hx hb dL_isDone_506 (by decide) (fun c => absurd rfl c) (fun _ => ?_)
      refine lv_iconst (v := nI 1) hx hb dL_isDone_509 (by decide) ?_
      refine lv_goto (tgt := 514) hx hb dL_isDone_510 (by decide) ?_
      exact kk H locs ls h
  · skip
    refine lv_sipush (v := nI 1000) hx hb dL_isDone_330 (by decide) ?_
    refine lv_goto (tgt := 366) hx hb dL_isDone_333 (by decide) ?_
    refine lv_istore (lv' := [(23, .int (nI 1000)), (22, .int (nI ((ac dv) + 1))), (21, .int (nI 0)), (20, .int (bI rt9)), (19, .int (nI 4)), (18, .int (bI true)), (17, .int (nI en)), (16, .int (nI dv)), (15, .int (nI three)), (14, .int (nI two)), (13, .int (nI one)), (12, .int (nI what)), (0, .ref (ad (0, 0, 0, 0))), (1, .ref b), (2, .int (nI at9)), (3, .ref (ad (35, 0, 0, 0))), (4, .ref (ad (37, 0, 0, 0))), (5, .ref (ad (39, 0, 0, 0))), (6, .ref (ad (43, 0, 0, 0))), (7, .ref (ad (44, 0, 0, 0))), (8, .ref (ad (41, 0, 0, 0))), (9, .ref (ad (42, 0, 0, 0))), (10, .ref (ad (40, 0, 0, 0))), (11, .ref (ad (45, 0, 0, 0)))]) hx hb dL_isDone_366 hl (by decide) rfl (fun ls hl => ?_)
    refine lv_iload hx hb dL_isDone_368 (lv_at hl 5 rfl) ?_
    refine b_if_eq (tgt := 379) hx hb dL_isDone_370 (by decide) (fun c => (Bool.noConfusion c)) (fun _ => ?_)
    refine lv_iload hx hb dL_isDone_373 (lv_at hl 4 rfl) ?_
    refine lv_iconst (v := nI 4) hx hb dL_isDone_375 (by decide) ?_
    refine lv_icmp_ne (tgt := 385) hx hb dL_isDone_376 (by decide) (fun c => absurd c (by decide)) (fun _ => ?_)
    refine lv_sipush (v := (-300)) hx hb dL_isDone_379 (by decide) ?_
    refine lv_goto (tgt := 420) hx hb dL_isDone_382 (by decide) ?_
    refine lv_istore (lv' := [(24, .int (-300)), (23, .int (nI 1000)), (22, .int (nI ((ac dv) + 1))), (21, .int (nI 0)), (20, .int (bI rt9)), (19, .int (nI 4)), (18, .int (bI true)), (17, .int (nI en)), (16, .int (nI dv)), (15, .int (nI three)), (14, .int (nI two)), (13, .int (nI one)), (12, .int (nI what)), (0, .ref (ad (0, 0, 0, 0))), (1, .ref b), (2, .int (nI at9)), (3, .ref (ad (35, 0, 0, 0))), (4, .ref (ad (37, 0, 0, 0))), (5, .ref (ad (39, 0, 0, 0))), (6, .ref (ad (43, 0, 0, 0))), (7, .ref (ad (44, 0, 0, 0))), (8, .ref (ad (41, 0, 0, 0))), (9, .ref (ad (42, 0, 0, 0))), (10, .ref (ad (40, 0, 0, 0))), (11, .ref (ad (45, 0, 0, 0)))]) hx hb dL_isDone_420 hl (by decide) rfl (fun ls hl => ?_)
    refine lv_iload hx hb dL_isDone_422 (lv_at hl 3 rfl) ?_
    refine lv_if_eq (tgt := 491) hx hb dL_isDone_424 (by decide) (fun _ => ?_) (fun c => absurd c (by decide))
    refine lv_aload_n hx hb dL_isDone_491 rfl (lv_at hl 13 rfl) ?_
    refine lv_iconst (v := nI 1) hx hb dL_isDone_492 (by decide) ?_
    refine lv_iload hx hb dL_isDone_493 (lv_at hl 8 rfl) ?_
    refine lv_iload hx hb dL_isDone_495 (lv_at hl 7 rfl) ?_
    refine lv_iload hx hb dL_isDone_497 (lv_at hl 5 rfl) ?_
    refine lv_iload hx hb dL_isDone_499 (lv_at hl 1 rfl) ?_
    refine x_doneI X h (x_runSH (n := 6) X h (w_does_tell_I (LL Z) hL (lv := 9) (by decide) (nI dv) (nI en) (nI 4) (nI 1000) (x_X6_tell_1 (LL Z) hst hL hG2.ok n mcs hBK (nI dv) (nI en) (nI 4) (nI 1000) (by rw [show isFld (nI 4) = false by decide, Bool.and_false])) _) q378 q5 q376 q377 ⟨by decide, by decide, by decide +kernel⟩ rfl (Nat.le_trans (by decide) hR1) (Nat.le_trans (by decide) hR2) ⟨by omega, by omega⟩ hl.1 (Nat.le_of_ble_eq_true rfl) dL_isDone_501 rfl) (fun H locs h => ?_)
    refine lv_iload hx hb dL_isDone_504 (lv_at hl 0 rfl) ?_
    refine lv_icmp_ne (tgt := 513) hx hb dL_isDone_506 (by decide) (fun c => absurd rfl c) (fun _ => ?_)
    refine lv_iconst (v := nI 1) hx hb dL_isDone_509 (by decide) ?_
    refine lv_goto (tgt := 514) hx hb dL_isDone_510 (by decide) ?_
    exact kk H locs ls h

set_option maxHeartbeats 4000000 in
set_option maxRecDepth 100000 in
theorem dt_telA (X : Cx p s mth args meth c cL_isDone yL_isDone.cls 26 D tc dz A) (hR1 : 14 ≤ R.frames) (hR2 : 462 ≤ R.locals) (hcR : cells + 1 ≤ R.cells) (hsR : slots + 6 ≤ R.slots) (hL : LV gm Ks) (hst : l.stackTraces = false) (hW : LW gm Ks) (hG2 : GM2 gm) (Z : Mem) (V : Nat → BS) (acts : Nat → Act) (z n m t : Nat) (ac mcs : Nat → Nat) (cn : Nat) (hS : LWS Z gm V acts z n m t ac mcs cn) (hcn : cn < 58) (b at9 : Nat) (what one two three : Nat) (h40 : what < 40) (h60 : one < 6000) (h70 : two < 7000) (h80 : three < 8000) (dv en : Nat) (hdv : dv ≤ 6) (hen : en ≤ 2) (fl : Nat) (hf : fl < 4) (hd : dv < 6) (hk : en < n) (h34 : Z (34, 0, 0, 0) (10 * dv + en) = nI 1) (h : Sx D A ad Ks (lay tc ad gm dz (LL Z)) s H locs) (hl : lv_has ls 26 [(20, .int (bI false)), (19, .int (nI fl)), (18, .int (bI true)), (17, .int (nI en)), (16, .int (nI dv)), (15, .int (nI three)), (14, .int (nI two)), (13, .int (nI one)), (12, .int (nI what)), (0, .ref (ad (0, 0, 0, 0))), (1, .ref b), (2, .int (nI at9)), (3, .ref (ad (35, 0, 0, 0))), (4, .ref (ad (37, 0, 0, 0))), (5, .ref (ad (39, 0, 0, 0))), (6, .ref (ad (43, 0, 0, 0))), (7, .ref (ad (44, 0, 0, 0))), (8, .ref (ad (41, 0, 0, 0))), (9, .ref (ad (42, 0, 0, 0))), (10, .ref (ad (40, 0, 0, 0))), (11, .ref (ad (45, 0, 0, 0)))])
    (kk : ∀ (H1 : Heap) (locs1 : List Loc) (ls1 : Array Slot), Sx D A ad Ks (lay tc ad gm dz (LL Z)) s H1 locs1 → W p l e R s mth args below meth c H1 locs1 (cells + 1) (slots + 6) Q (F0 mth 514 ls1 [.int (bI true)])) : W p l e R s mth args below meth c H locs cells slots Q (F0 mth 266 ls []) := by
  have hok := hS.2.1
  have hn2 := hS.2.2.1
  have hm10 := hS.2.2.2
  have hN := nr_of hS.1.1
  have ht9 : t ≤ 2000 := by have := hS.1.2.2.2.2.2.2.2.2.2.1; omega
  have hBK := lb_bk (G := Z) hS.1 (fun _ _ => rfl)
  have hR9 := lb_rel0 (G := Z) hS.1.1 (fun _ _ => rfl)
  have hac9 := hS.1.2.2.2.2.2.2.2.2.2.2.1 dv
  have hC := hR9.cp en dv (by omega) hd
  have hkn := ck_yes hC h34
  obtain ⟨hx, hb, hmaxL, hown, hts⟩ := id X.1
  refine lv_iload hx hb dL_isDone_266 (lv_at hl 2 rfl) ?_
  refine b_if_eq (tgt := 300) hx hb dL_isDone_268 (by decide) (fun c => (Bool.noConfusion c)) (fun _ => ?_)
  refine lv_iload hx hb dL_isDone_271 (lv_at hl 1 rfl) ?_
  refine lv_iconst (v := nI 4) hx hb dL_isDone_273 (by decide) ?_
  refine n_icmp_ge (tgt := 300) hx hb (by omega) (by omega) dL_isDone_274 (by decide) (fun c => absurd hf (by omega)) (fun _ => ?_)
  refine lv_iload hx hb dL_isDone_277 (lv_at hl 0 rfl) ?_
  refine b_if_eq (tgt := 300) hx hb dL_isDone_279 (by decide) (fun _ => ?_) (fun c => (Bool.noConfusion c))
  refine lv_iconst (v := nI 0) hx hb dL_isDone_300 (by decide) ?_
  refine lv_istore (lv' := [(21, .int (nI 0)), (20, .int (bI false)), (19, .int (nI fl)), (18, .int (bI true)), (17, .int (nI en)), (16, .int (nI dv)), (15, .int (nI three)), (14, .int (nI two)), (13, .int (nI one)), (12, .int (nI what)), (0, .ref (ad (0, 0, 0, 0))), (1, .ref b), (2, .int (nI at9)), (3, .ref (ad (35, 0, 0, 0))), (4, .ref (ad (37, 0, 0, 0))), (5, .ref (ad (39, 0, 0, 0))), (6, .ref (ad (43, 0, 0, 0))), (7, .ref (ad (44, 0, 0, 0))), (8, .ref (ad (41, 0, 0, 0))), (9, .ref (ad (42, 0, 0, 0))), (10, .ref (ad (40, 0, 0, 0))), (11, .ref (ad (45, 0, 0, 0)))]) hx hb dL_isDone_301 hl (by decide) rfl (fun ls hl => ?_)
  refine lv_iload hx hb dL_isDone_303 (lv_at hl 5 rfl) ?_
  refine lv_bipush (v := nI 6) hx hb dL_isDone_305 (by decide) ?_
  refine n_icmp_ge (tgt := 322) hx hb (by omega) (by omega) dL_isDone_307 (by decide) (fun c => absurd hd (by omega)) (fun _ => ?_)
  refine lv_aload hx hb dL_isDone_310 (lv_at hl 21 rfl) ?_
  refine lv_iconst (v := nI 3) hx hb dL_isDone_312 (by decide) ?_
  refine lv_iload hx hb dL_isDone_313 (lv_at hl 5 rfl) ?_
  refine n_iadd hx hb dL_isDone_315 ?_
  refine y_ald X h (fun _ => rfl) (by decide) (hL (45, 0, 0, 0) ⟨by decide, rfl, rfl, rfl⟩) (by omega) (v := nI (ac dv)) (gc_3.trans (hS.1.1.gl.aJ dv (by omega))) dL_isDone_316 ?_
  refine lv_iconst (v := nI 1) hx hb dL_isDone_317 (by decide) ?_
  refine n_iadd hx hb dL_isDone_318 ?_
  refine lv_goto (tgt := 323) hx hb dL_isDone_319 (by decide) ?_
  refine lv_istore (lv' := [(22, .int (nI ((ac dv) + 1))), (21, .int (nI 0)), (20, .int (bI false)), (19, .int (nI fl)), (18, .int (bI true)), (17, .int (nI en)), (16, .int (nI dv)), (15, .int (nI three)), (14, .int (nI two)), (13, .int (nI one)), (12, .int (nI what)), (0, .ref (ad (0, 0, 0, 0))), (1, .ref b), (2, .int (nI at9)), (3, .ref (ad (35, 0, 0, 0))), (4, .ref (ad (37, 0, 0, 0))), (5, .ref (ad (39, 0, 0, 0))), (6, .ref (ad (43, 0, 0, 0))), (7, .ref (ad (44, 0, 0, 0))), (8, .ref (ad (41, 0, 0, 0))), (9, .ref (ad (42, 0, 0, 0))), (10, .ref (ad (40, 0, 0, 0))), (11, .ref (ad (45, 0, 0, 0)))]) hx hb dL_isDone_323 hl (by decide) rfl (fun ls hl => ?_)
  refine lv_iload hx hb dL_isDone_325 (lv_at hl 2 rfl) ?_
  refine b_if_ne (tgt := 336) hx hb dL_isDone_327 (by decide) (fun c => (Bool.noConfusion c)) (fun _ => ?_)
  refine lv_sipush (v := nI 1000) hx hb dL_isDone_330 (by decide) ?_
  refine lv_goto (tgt := 366) hx hb dL_isDone_333 (by decide) ?_
  refine lv_istore (lv' := [(23, .int (nI 1000)), (22, .int (nI ((ac dv) + 1))), (21, .int (nI 0)), (20, .int (bI false)), (19, .int (nI fl)), (18, .int (bI true)), (17, .int (nI en)), (16, .int (nI dv)), (15, .int (nI three)), (14, .int (nI two)), (13, .int (nI one)), (12, .int (nI what)), (0, .ref (ad (0, 0, 0, 0))), (1, .ref b), (2, .int (nI at9)), (3, .ref (ad (35, 0, 0, 0))), (4, .ref (ad (37, 0, 0, 0))), (5, .ref (ad (39, 0, 0, 0))), (6, .ref (ad (43, 0, 0, 0))), (7, .ref (ad (44, 0, 0, 0))), (8, .ref (ad (41, 0, 0, 0))), (9, .ref (ad (42, 0, 0, 0))), (10, .ref (ad (40, 0, 0, 0))), (11, .ref (ad (45, 0, 0, 0)))]) hx hb dL_isDone_366 hl (by decide) rfl (fun ls hl => ?_)
  refine lv_iload hx hb dL_isDone_368 (lv_at hl 5 rfl) ?_
  refine b_if_eq (tgt := 379) hx hb dL_isDone_370 (by decide) (fun c => (Bool.noConfusion c)) (fun _ => ?_)
  refine lv_iload hx hb dL_isDone_373 (lv_at hl 4 rfl) ?_
  refine lv_iconst (v := nI 4) hx hb dL_isDone_375 (by decide) ?_
  refine n_icmp_ne (tgt := 385) hx hb (by omega) (by omega) dL_isDone_376 (by decide) (fun _ => ?_) (fun c => absurd hf (by omega))
  refine lv_iload hx hb dL_isDone_385 (lv_at hl 3 rfl) ?_
  refine b_if_ne (tgt := 396) hx hb dL_isDone_387 (by decide) (fun c => (Bool.noConfusion c)) (fun _ => ?_)
  refine lv_sipush (v := (-200)) hx hb dL_isDone_390 (by decide) ?_
  refine lv_goto (tgt := 420) hx hb dL_isDone_393 (by decide) ?_
  refine lv_istore (lv' := [(24, .int (-200)), (23, .int (nI 1000)), (22, .int (nI ((ac dv) + 1))), (21, .int (nI 0)), (20, .int (bI false)), (19, .int (nI fl)), (18, .int (bI true)), (17, .int (nI en)), (16, .int (nI dv)), (15, .int (nI three)), (14, .int (nI two)), (13, .int (nI one)), (12, .int (nI what)), (0, .ref (ad (0, 0, 0, 0))), (1, .ref b), (2, .int (nI at9)), (3, .ref (ad (35, 0, 0, 0))), (4, .ref (ad (37, 0, 0, 0))), (5, .ref (ad (39, 0, 0, 0))), (6, .ref (ad (43, 0, 0, 0))), (7, .ref (ad (44, 0, 0, 0))), (8, .ref (ad (41, 0, 0, 0))), (9, .ref (ad (42, 0, 0, 0))), (10, .ref (ad (40, 0, 0, 0))), (11, .ref (ad (45, 0, 0, 0)))]) hx hb dL_isDone_420 hl (by decide) rfl (fun ls hl => ?_)
  refine lv_iload hx hb dL_isDone_422 (lv_at hl 3 rfl) ?_
  refine lv_if_eq (tgt := 491) hx hb dL_isDone_424 (by decide) (fun _ => ?_) (fun c => absurd c (by decide))
  refine lv_aload_n hx hb dL_isDone_491 rfl (lv_at hl 13 rfl) ?_
  refine lv_iconst (v := nI 1) hx hb dL_isDone_492 (by decide) ?_
  refine lv_iload hx hb dL_isDone_493 (lv_at hl 8 rfl) ?_
  refine lv_iload hx hb dL_isDone_495 (lv_at hl 7 rfl) ?_
  refine lv_iload hx hb dL_isDone_497 (lv_at hl 5 rfl) ?_
  refine lv_iload hx hb dL_isDone_499 (lv_at hl 1 rfl) ?_
  refine x_doneI X h (x_runSH (n := 6) X h (w_does_tell_A (LL Z) hL (lv := 9) (by decide) (nI dv) (nI en) (nI fl) (nI 1000) (x_X6_tell_2 (LL Z) hst hL hG2.ok n mcs hBK dv en fl hd hk hf hkn (nI 1000) (by decide)) _) q378 q5 q376 q377 ⟨by decide, by decide, by decide +kernel⟩ rfl (Nat.le_trans (by decide) hR1) (Nat.le_trans (by decide) hR2) ⟨by omega, by omega⟩ hl.1 (Nat.le_of_ble_eq_true rfl) dL_isDone_501 rfl) (fun H locs h => ?_)
  refine lv_iload hx hb dL_isDone_504 (lv_at hl 0 rfl) ?_
  refine lv_icmp_ne (tgt := 513) hx hb dL_isDone_506 (by decide) (fun c => absurd rfl c) (fun _ => ?_)
  refine lv_iconst (v := nI 1) hx hb dL_isDone_509 (by decide) ?_
  refine lv_goto (tgt := 514) hx hb dL_isDone_510 (by decide) ?_
  exact kk H locs ls h

set_option maxHeartbeats 4000000 in
set_option maxRecDepth 100000 in
theorem dt_telS (X : Cx p s mth args meth c cL_isDone yL_isDone.cls 26 D tc dz A) (hR1 : 14 ≤ R.frames) (hR2 : 462 ≤ R.locals) (hcR : cells + 1 ≤ R.cells) (hsR : slots + 6 ≤ R.slots) (hL : LV gm Ks) (hst : l.stackTraces = false) (hW : LW gm Ks) (hG2 : GM2 gm) (Z : Mem) (V : Nat → BS) (acts : Nat → Act) (z n m t : Nat) (ac mcs : Nat → Nat) (cn : Nat) (hS : LWS Z gm V acts z n m t ac mcs cn) (hcn : cn < 58) (b at9 : Nat) (what one two three : Nat) (h40 : what < 40) (h60 : one < 6000) (h70 : two < 7000) (h80 : three < 8000) (dv en : Nat) (hdv : dv ≤ 6) (hen : en ≤ 2) (fl : Nat) (hf : fl < 4) (hmay : mayB Z dv en fl = false) (hd : dv < 6) (hk : en < n) (h34 : Z (34, 0, 0, 0) (10 * dv + en) = nI 1) (h : Sx D A ad Ks (lay tc ad gm dz (LL Z)) s H locs) (hl : lv_has ls 26 [(20, .int (bI true)), (19, .int (nI fl)), (18, .int (bI true)), (17, .int (nI en)), (16, .int (nI dv)), (15, .int (nI three)), (14, .int (nI two)), (13, .int (nI one)), (12, .int (nI what)), (0, .ref (ad (0, 0, 0, 0))), (1, .ref b), (2, .int (nI at9)), (3, .ref (ad (35, 0, 0, 0))), (4, .ref (ad (37, 0, 0, 0))), (5, .ref (ad (39, 0, 0, 0))), (6, .ref (ad (43, 0, 0, 0))), (7, .ref (ad (44, 0, 0, 0))), (8, .ref (ad (41, 0, 0, 0))), (9, .ref (ad (42, 0, 0, 0))), (10, .ref (ad (40, 0, 0, 0))), (11, .ref (ad (45, 0, 0, 0)))])
    (kk : ∀ (H1 : Heap) (locs1 : List Loc) (ls1 : Array Slot), Sx D A ad Ks (lay tc ad gm dz (LL Z)) s H1 locs1 → W p l e R s mth args below meth c H1 locs1 (cells + 1) (slots + 6) Q (F0 mth 514 ls1 [.int (bI true)])) : W p l e R s mth args below meth c H locs cells slots Q (F0 mth 266 ls []) := by
  have hok := hS.2.1
  have hn2 := hS.2.2.1
  have hm10 := hS.2.2.2
  have hN := nr_of hS.1.1
  have ht9 : t ≤ 2000 := by have := hS.1.2.2.2.2.2.2.2.2.2.1; omega
  have hBK := lb_bk (G := Z) hS.1 (fun _ _ => rfl)
  have hR9 := lb_rel0 (G := Z) hS.1.1 (fun _ _ => rfl)
  have hac9 := hS.1.2.2.2.2.2.2.2.2.2.2.1 dv
  have hC := hR9.cp en dv (by omega) hd
  have hkn := ck_yes hC h34
  have hin : ∀ w : Int32, (w = -1 ∨ ∃ x : Nat, x < 1000 ∧ w = nI x) → inR w (-1) (nI 999) = true := tell_in
  obtain ⟨hx, hb, hmaxL, hown, hts⟩ := id X.1
  refine lv_iload hx hb dL_isDone_266 (lv_at hl 2 rfl) ?_
  refine b_if_eq (tgt := 300) hx hb dL_isDone_268 (by decide) (fun c => (Bool.noConfusion c)) (fun _ => ?_)
  refine lv_iload hx hb dL_isDone_271 (lv_at hl 1 rfl) ?_
  refine lv_iconst (v := nI 4) hx hb dL_isDone_273 (by decide) ?_
  refine n_icmp_ge (tgt := 300) hx hb (by omega) (by omega) dL_isDone_274 (by decide) (fun c => absurd hf (by omega)) (fun _ => ?_)
  refine lv_iload hx hb dL_isDone_277 (lv_at hl 0 rfl) ?_
  refine b_if_eq (tgt := 300) hx hb dL_isDone_279 (by decide) (fun c => (Bool.noConfusion c)) (fun _ => ?_)
  refine lv_aload hx hb dL_isDone_282 (lv_at hl 16 rfl) ?_
  refine lv_iload hx hb dL_isDone_284 (lv_at hl 4 rfl) ?_
  refine lv_iload hx hb dL_isDone_286 (lv_at hl 3 rfl) ?_
  refine lv_iload hx hb dL_isDone_288 (lv_at hl 1 rfl) ?_
  refine x_doneI X h (x_runS X h (m_L_may Z hL dv en hd (by omega) fl hf _) F_L_may q766 q767 rfl (Nat.le_trans (by decide) hR1) (Nat.le_trans (by decide) hR2) ⟨by omega, by omega⟩ hl.1 (Nat.le_of_ble_eq_true rfl) dL_isDone_290 rfl) (fun H locs h => ?_)
  refine b_if_eq (tgt := 300) hx hb dL_isDone_293 (by decide) (fun _ => ?_) (fun c => absurd (hmay.symm.trans c) (by decide))
  refine lv_iconst (v := nI 0) hx hb dL_isDone_300 (by decide) ?_
  refine lv_istore (lv' := [(21, .int (nI 0)), (20, .int (bI true)), (19, .int (nI fl)), (18, .int (bI true)), (17, .int (nI en)), (16, .int (nI dv)), (15, .int (nI three)), (14, .int (nI two)), (13, .int (nI one)), (12, .int (nI what)), (0, .ref (ad (0, 0, 0, 0))), (1, .ref b), (2, .int (nI at9)), (3, .ref (ad (35, 0, 0, 0))), (4, .ref (ad (37, 0, 0, 0))), (5, .ref (ad (39, 0, 0, 0))), (6, .ref (ad (43, 0, 0, 0))), (7, .ref (ad (44, 0, 0, 0))), (8, .ref (ad (41, 0, 0, 0))), (9, .ref (ad (42, 0, 0, 0))), (10, .ref (ad (40, 0, 0, 0))), (11, .ref (ad (45, 0, 0, 0)))]) hx hb dL_isDone_301 hl (by decide) rfl (fun ls hl => ?_)
  refine lv_iload hx hb dL_isDone_303 (lv_at hl 5 rfl) ?_
  refine lv_bipush (v := nI 6) hx hb dL_isDone_305 (by decide) ?_
  refine n_icmp_ge (tgt := 322) hx hb (by omega) (by omega) dL_isDone_307 (by decide) (fun c => absurd hd (by omega)) (fun _ => ?_)
  refine lv_aload hx hb dL_isDone_310 (lv_at hl 21 rfl) ?_
  refine lv_iconst (v := nI 3) hx hb dL_isDone_312 (by decide) ?_
  refine lv_iload hx hb dL_isDone_313 (lv_at hl 5 rfl) ?_
  refine n_iadd hx hb dL_isDone_315 ?_
  refine y_ald X h (fun _ => rfl) (by decide) (hL (45, 0, 0, 0) ⟨by decide, rfl, rfl, rfl⟩) (by omega) (v := nI (ac dv)) (gc_3.trans (hS.1.1.gl.aJ dv (by omega))) dL_isDone_316 ?_
  refine lv_iconst (v := nI 1) hx hb dL_isDone_317 (by decide) ?_
  refine n_iadd hx hb dL_isDone_318 ?_
  refine lv_goto (tgt := 323) hx hb dL_isDone_319 (by decide) ?_
  refine lv_istore (lv' := [(22, .int (nI ((ac dv) + 1))), (21, .int (nI 0)), (20, .int (bI true)), (19, .int (nI fl)), (18, .int (bI true)), (17, .int (nI en)), (16, .int (nI dv)), (15, .int (nI three)), (14, .int (nI two)), (13, .int (nI one)), (12, .int (nI what)), (0, .ref (ad (0, 0, 0, 0))), (1, .ref b), (2, .int (nI at9)), (3, .ref (ad (35, 0, 0, 0))), (4, .ref (ad (37, 0, 0, 0))), (5, .ref (ad (39, 0, 0, 0))), (6, .ref (ad (43, 0, 0, 0))), (7, .ref (ad (44, 0, 0, 0))), (8, .ref (ad (41, 0, 0, 0))), (9, .ref (ad (42, 0, 0, 0))), (10, .ref (ad (40, 0, 0, 0))), (11, .ref (ad (45, 0, 0, 0)))]) hx hb dL_isDone_323 hl (by decide) rfl (fun ls hl => ?_)
  refine lv_iload hx hb dL_isDone_325 (lv_at hl 2 rfl) ?_
  refine b_if_ne (tgt := 336) hx hb dL_isDone_327 (by decide) (fun _ => ?_) (fun c => (Bool.noConfusion c))
  refine lv_iload hx hb dL_isDone_336 (lv_at hl 7 rfl) ?_
  refine lv_bipush (v := nI 6) hx hb dL_isDone_338 (by decide) ?_
  refine n_irem hx hb (by omega) (by omega) (by omega) dL_isDone_340 ?_
  refine n_if_ne (tgt := 348) hx hb (by omega) dL_isDone_341 (by decide) (fun c_341 => ?_) (fun c_341 => ?_)
  · skip
    refine lv_iload hx hb dL_isDone_348 (lv_at hl 6 rfl) ?_
    refine lv_bipush (v := nI 6) hx hb dL_isDone_350 (by decide) ?_
    refine n_icmp_ge (tgt := 365) hx hb (by omega) (by omega) dL_isDone_352 (by decide) (fun c => absurd hd (by omega)) (fun _ => ?_)
    refine lv_iload hx hb dL_isDone_355 (lv_at hl 6 rfl) ?_
    refine lv_iload hx hb dL_isDone_357 (lv_at hl 0 rfl) ?_
    refine x_doneI X h (x_runS X h (m_L_value (LL Z) dv ((ac dv) + 1) (by omega) (by omega) _) F_L_value q760 q761 rfl (Nat.le_trans (by decide) hR1) (Nat.le_trans (by decide) hR2) ⟨by omega, by omega⟩ hl.1 (Nat.le_of_ble_eq_true rfl) dL_isDone_359 rfl) (fun H locs h => ?_)
    refine lv_goto (tgt := 366) hx hb dL_isDone_362 (by decide) ?_
    refine lv_istore (lv' := [(23, .int (nI ((100 * dv + 37 * ((ac dv) + 1)) % 1000))), (22, .int (nI ((ac dv) + 1))), (21, .int (nI 0)), (20, .int (bI true)), (19, .int (nI fl)), (18, .int (bI true)), (17, .int (nI en)), (16, .int (nI dv)), (15, .int (nI three)), (14, .int (nI two)), (13, .int (nI one)), (12, .int (nI what)), (0, .ref (ad (0, 0, 0, 0))), (1, .ref b), (2, .int (nI at9)), (3, .ref (ad (35, 0, 0, 0))), (4, .ref (ad (37, 0, 0, 0))), (5, .ref (ad (39, 0, 0, 0))), (6, .ref (ad (43, 0, 0, 0))), (7, .ref (ad (44, 0, 0, 0))), (8, .ref (ad (41, 0, 0, 0))), (9, .ref (ad (42, 0, 0, 0))), (10, .ref (ad (40, 0, 0, 0))), (11, .ref (ad (45, 0, 0, 0)))]) hx hb dL_isDone_366 hl (by decide) rfl (fun ls hl => ?_)
    refine lv_iload hx hb dL_isDone_368 (lv_at hl 5 rfl) ?_
    refine b_if_eq (tgt := 379) hx hb dL_isDone_370 (by decide) (fun c => (Bool.noConfusion c)) (fun _ => ?_)
    refine lv_iload hx hb dL_isDone_373 (lv_at hl 4 rfl) ?_
    refine lv_iconst (v := nI 4) hx hb dL_isDone_375 (by decide) ?_
    refine n_icmp_ne (tgt := 385) hx hb (by omega) (by omega) dL_isDone_376 (by decide) (fun _ => ?_) (fun c => absurd hf (by omega))
    refine lv_iload hx hb dL_isDone_385 (lv_at hl 3 rfl) ?_
    refine b_if_ne (tgt := 396) hx hb dL_isDone_387 (by decide) (fun _ => ?_) (fun c => (Bool.noConfusion c))
    refine lv_iload hx hb dL_isDone_396 (lv_at hl 2 rfl) ?_
    refine lv_if_eq (tgt := 418) hx hb dL_isDone_398 (by decide) (fun _ => ?_) (fun c => absurd c (by decide))
    refine lv_bipush (v := (-100)) hx hb dL_isDone_418 (by decide) ?_
    refine lv_istore (lv' := [(24, .int (-100)), (23, .int (nI ((100 * dv + 37 * ((ac dv) + 1)) % 1000))), (22, .int (nI ((ac dv) + 1))), (21, .int (nI 0)), (20, .int (bI true)), (19, .int (nI fl)), (18, .int (bI true)), (17, .int (nI en)), (16, .int (nI dv)), (15, .int (nI three)), (14, .int (nI two)), (13, .int (nI one)), (12, .int (nI what)), (0, .ref (ad (0, 0, 0, 0))), (1, .ref b), (2, .int (nI at9)), (3, .ref (ad (35, 0, 0, 0))), (4, .ref (ad (37, 0, 0, 0))), (5, .ref (ad (39, 0, 0, 0))), (6, .ref (ad (43, 0, 0, 0))), (7, .ref (ad (44, 0, 0, 0))), (8, .ref (ad (41, 0, 0, 0))), (9, .ref (ad (42, 0, 0, 0))), (10, .ref (ad (40, 0, 0, 0))), (11, .ref (ad (45, 0, 0, 0)))]) hx hb dL_isDone_420 hl (by decide) rfl (fun ls hl => ?_)
    refine lv_iload hx hb dL_isDone_422 (lv_at hl 3 rfl) ?_
    refine lv_if_eq (tgt := 491) hx hb dL_isDone_424 (by decide) (fun _ => ?_) (fun c => absurd c (by decide))
    refine lv_aload_n hx hb dL_isDone_491 rfl (lv_at hl 13 rfl) ?_
    refine lv_iconst (v := nI 1) hx hb dL_isDone_492 (by decide) ?_
    refine lv_iload hx hb dL_isDone_493 (lv_at hl 8 rfl) ?_
    refine lv_iload hx hb dL_isDone_495 (lv_at hl 7 rfl) ?_
    refine lv_iload hx hb dL_isDone_497 (lv_at hl 5 rfl) ?_
    refine lv_iload hx hb dL_isDone_499 (lv_at hl 1 rfl) ?_
    refine x_doneI X h (x_runSH (n := 6) X h (w_does_tell_S (LL Z) hL (lv := 9) (by decide) (nI dv) (nI en) (nI fl) (nI ((100 * dv + 37 * ((ac dv) + 1)) % 1000)) (x_X6_tell_3 (LL Z) hst hL hG2.ok n mcs hBK dv en fl hd hk hf hkn (nI ((100 * dv + 37 * ((ac dv) + 1)) % 1000)) (hin _ (by first | exact Or.inl rfl | exact Or.inr ⟨_, by omega, rfl⟩)) (by rw [rl_ff hR9.gl (by omega) hd hf]; exact hmay)) _) q378 q5 q376 q377 ⟨by decide, by decide, by decide +kernel⟩ rfl (Nat.le_trans (by decide) hR1) (Nat.le_trans (by decide) hR2) ⟨by omega, by omega⟩ hl.1 (Nat.le_of_ble_eq_true rfl) dL_isDone_501 rfl) (fun H locs h => ?_)
    refine lv_iload hx hb dL_isDone_504 (lv_at hl 0 rfl) ?_
    refine lv_icmp_ne (tgt := 513) hx hb dL_isDone_506 (by decide) (fun c => absurd rfl c) (fun _ => ?_)
    refine lv_iconst (v := nI 1) hx hb dL_isDone_509 (by decide) ?_
    refine lv_goto (tgt := 514) hx hb dL_isDone_510 (by decide) ?_
    exact kk H locs ls h
  · skip
    refine lv_iconst (v := (-1)) hx hb dL_isDone_344 (by decide) ?_
    refine lv_goto (tgt := 366) hx hb dL_isDone_345 (by decide) ?_
    refine lv_istore (lv' := [(23, .int (-1)), (22, .int (nI ((ac dv) + 1))), (21, .int (nI 0)), (20, .int (bI true)), (19, .int (nI fl)), (18, .int (bI true)), (17, .int (nI en)), (16, .int (nI dv)), (15, .int (nI three)), (14, .int (nI two)), (13, .int (nI one)), (12, .int (nI what)), (0, .ref (ad (0, 0, 0, 0))), (1, .ref b), (2, .int (nI at9)), (3, .ref (ad (35, 0, 0, 0))), (4, .ref (ad (37, 0, 0, 0))), (5, .ref (ad (39, 0, 0, 0))), (6, .ref (ad (43, 0, 0, 0))), (7, .ref (ad (44, 0, 0, 0))), (8, .ref (ad (41, 0, 0, 0))), (9, .ref (ad (42, 0, 0, 0))), (10, .ref (ad (40, 0, 0, 0))), (11, .ref (ad (45, 0, 0, 0)))]) hx hb dL_isDone_366 hl (by decide) rfl (fun ls hl => ?_)
    refine lv_iload hx hb dL_isDone_368 (lv_at hl 5 rfl) ?_
    refine b_if_eq (tgt := 379) hx hb dL_isDone_370 (by decide) (fun c => (Bool.noConfusion c)) (fun _ => ?_)
    refine lv_iload hx hb dL_isDone_373 (lv_at hl 4 rfl) ?_
    refine lv_iconst (v := nI 4) hx hb dL_isDone_375 (by decide) ?_
    refine n_icmp_ne (tgt := 385) hx hb (by omega) (by omega) dL_isDone_376 (by decide) (fun _ => ?_) (fun c => absurd hf (by omega))
    refine lv_iload hx hb dL_isDone_385 (lv_at hl 3 rfl) ?_
    refine b_if_ne (tgt := 396) hx hb dL_isDone_387 (by decide) (fun _ => ?_) (fun c => (Bool.noConfusion c))
    refine lv_iload hx hb dL_isDone_396 (lv_at hl 2 rfl) ?_
    refine lv_if_eq (tgt := 418) hx hb dL_isDone_398 (by decide) (fun _ => ?_) (fun c => absurd c (by decide))
    refine lv_bipush (v := (-100)) hx hb dL_isDone_418 (by decide) ?_
    refine lv_istore (lv' := [(24, .int (-100)), (23, .int (-1)), (22, .int (nI ((ac dv) + 1))), (21, .int (nI 0)), (20, .int (bI true)), (19, .int (nI fl)), (18, .int (bI true)), (17, .int (nI en)), (16, .int (nI dv)), (15, .int (nI three)), (14, .int (nI two)), (13, .int (nI one)), (12, .int (nI what)), (0, .ref (ad (0, 0, 0, 0))), (1, .ref b), (2, .int (nI at9)), (3, .ref (ad (35, 0, 0, 0))), (4, .ref (ad (37, 0, 0, 0))), (5, .ref (ad (39, 0, 0, 0))), (6, .ref (ad (43, 0, 0, 0))), (7, .ref (ad (44, 0, 0, 0))), (8, .ref (ad (41, 0, 0, 0))), (9, .ref (ad (42, 0, 0, 0))), (10, .ref (ad (40, 0, 0, 0))), (11, .ref (ad (45, 0, 0, 0)))]) hx hb dL_isDone_420 hl (by decide) rfl (fun ls hl => ?_)
    refine lv_iload hx hb dL_isDone_422 (lv_at hl 3 rfl) ?_
    refine lv_if_eq (tgt := 491) hx hb dL_isDone_424 (by decide) (fun _ => ?_) (fun c => absurd c (by decide))
    refine lv_aload_n hx hb dL_isDone_491 rfl (lv_at hl 13 rfl) ?_
    refine lv_iconst (v := nI 1) hx hb dL_isDone_492 (by decide) ?_
    refine lv_iload hx hb dL_isDone_493 (lv_at hl 8 rfl) ?_
    refine lv_iload hx hb dL_isDone_495 (lv_at hl 7 rfl) ?_
    refine lv_iload hx hb dL_isDone_497 (lv_at hl 5 rfl) ?_
    refine lv_iload hx hb dL_isDone_499 (lv_at hl 1 rfl) ?_
    refine x_doneI X h (x_runSH (n := 6) X h (w_does_tell_S (LL Z) hL (lv := 9) (by decide) (nI dv) (nI en) (nI fl) (-1) (x_X6_tell_3 (LL Z) hst hL hG2.ok n mcs hBK dv en fl hd hk hf hkn (-1) (hin _ (by first | exact Or.inl rfl | exact Or.inr ⟨_, by omega, rfl⟩)) (by rw [rl_ff hR9.gl (by omega) hd hf]; exact hmay)) _) q378 q5 q376 q377 ⟨by decide, by decide, by decide +kernel⟩ rfl (Nat.le_trans (by decide) hR1) (Nat.le_trans (by decide) hR2) ⟨by omega, by omega⟩ hl.1 (Nat.le_of_ble_eq_true rfl) dL_isDone_501 rfl) (fun H locs h => ?_)
    refine lv_iload hx hb dL_isDone_504 (lv_at hl 0 rfl) ?_
    refine lv_icmp_ne (tgt := 513) hx hb dL_isDone_506 (by decide) (fun c => absurd rfl c) (fun _ => ?_)
    refine lv_iconst (v := nI 1) hx hb dL_isDone_509 (by decide) ?_
    refine lv_goto (tgt := 514) hx hb dL_isDone_510 (by decide) ?_
    exact kk H locs ls h

set_option maxHeartbeats 4000000 in
set_option maxRecDepth 100000 in
theorem dt_delI (X : Cx p s mth args meth c cL_isDone yL_isDone.cls 26 D tc dz A) (hR1 : 14 ≤ R.frames) (hR2 : 462 ≤ R.locals) (hcR : cells + 1 ≤ R.cells) (hsR : slots + 6 ≤ R.slots) (hL : LV gm Ks) (hst : l.stackTraces = false) (hW : LW gm Ks) (hG2 : GM2 gm) (Z : Mem) (V : Nat → BS) (acts : Nat → Act) (z n m t : Nat) (ac mcs : Nat → Nat) (cn : Nat) (hS : LWS Z gm V acts z n m t ac mcs cn) (hcn : cn < 58) (b at9 : Nat) (what one two three : Nat) (h40 : what < 40) (h60 : one < 6000) (h70 : two < 7000) (h80 : three < 8000) (dv en : Nat) (hdv : dv ≤ 6) (hen : en ≤ 2) (hw : what < 20) (hck : ckn (LL Z) 0 n (nI dv) (nI en) = false) (h : Sx D A ad Ks (lay tc ad gm dz (LL Z)) s H locs) (hl : lv_has ls 26 [(18, .int (bI false)), (17, .int (nI en)), (16, .int (nI dv)), (15, .int (nI three)), (14, .int (nI two)), (13, .int (nI one)), (12, .int (nI what)), (0, .ref (ad (0, 0, 0, 0))), (1, .ref b), (2, .int (nI at9)), (3, .ref (ad (35, 0, 0, 0))), (4, .ref (ad (37, 0, 0, 0))), (5, .ref (ad (39, 0, 0, 0))), (6, .ref (ad (43, 0, 0, 0))), (7, .ref (ad (44, 0, 0, 0))), (8, .ref (ad (41, 0, 0, 0))), (9, .ref (ad (42, 0, 0, 0))), (10, .ref (ad (40, 0, 0, 0))), (11, .ref (ad (45, 0, 0, 0)))])
    (kk : ∀ (H1 : Heap) (locs1 : List Loc) (ls1 : Array Slot), Sx D A ad Ks (lay tc ad gm dz (LL Z)) s H1 locs1 → W p l e R s mth args below meth c H1 locs1 (cells + 1) (slots + 6) Q (F0 mth 745 ls1 [.int (bI true)])) : W p l e R s mth args below meth c H locs cells slots Q (F0 mth 515 ls []) := by
  have hok := hS.2.1
  have hn2 := hS.2.2.1
  have hm10 := hS.2.2.2
  have hN := nr_of hS.1.1
  have ht9 : t ≤ 2000 := by have := hS.1.2.2.2.2.2.2.2.2.2.1; omega
  have hBK := lb_bk (G := Z) hS.1 (fun _ _ => rfl)
  have hR9 := lb_rel0 (G := Z) hS.1.1 (fun _ _ => rfl)
  obtain ⟨hx, hb, hmaxL, hown, hts⟩ := id X.1
  refine lv_iload hx hb dL_isDone_515 (lv_at hl 6 rfl) ?_
  refine lv_bipush (v := nI 20) hx hb dL_isDone_517 (by decide) ?_
  refine n_icmp_ge (tgt := 746) hx hb (by omega) (by omega) dL_isDone_519 (by decide) (fun c => absurd hw (by omega)) (fun _ => ?_)
  refine lv_iload hx hb dL_isDone_522 (lv_at hl 0 rfl) ?_
  refine b_if_eq (tgt := 567) hx hb dL_isDone_524 (by decide) (fun _ => ?_) (fun c => (Bool.noConfusion c))
  refine lv_iconst (v := nI 0) hx hb dL_isDone_567 (by decide) ?_
  refine lv_istore (lv' := [(19, .int (nI 0)), (18, .int (bI false)), (17, .int (nI en)), (16, .int (nI dv)), (15, .int (nI three)), (14, .int (nI two)), (13, .int (nI one)), (12, .int (nI what)), (0, .ref (ad (0, 0, 0, 0))), (1, .ref b), (2, .int (nI at9)), (3, .ref (ad (35, 0, 0, 0))), (4, .ref (ad (37, 0, 0, 0))), (5, .ref (ad (39, 0, 0, 0))), (6, .ref (ad (43, 0, 0, 0))), (7, .ref (ad (44, 0, 0, 0))), (8, .ref (ad (41, 0, 0, 0))), (9, .ref (ad (42, 0, 0, 0))), (10, .ref (ad (40, 0, 0, 0))), (11, .ref (ad (45, 0, 0, 0)))]) hx hb dL_isDone_568 hl (by decide) rfl (fun ls hl => ?_)
  refine lv_iload hx hb dL_isDone_570 (lv_at hl 0 rfl) ?_
  refine lv_if_eq (tgt := 602) hx hb dL_isDone_572 (by decide) (fun _ => ?_) (fun c => absurd c (by decide))
  refine lv_iload hx hb dL_isDone_602 (lv_at hl 1 rfl) ?_
  refine b_if_ne (tgt := 613) hx hb dL_isDone_604 (by decide) (fun c => (Bool.noConfusion c)) (fun _ => ?_)
  refine lv_sipush (v := (-300)) hx hb dL_isDone_607 (by decide) ?_
  refine lv_goto (tgt := 631) hx hb dL_isDone_610 (by decide) ?_
  refine lv_istore (lv' := [(20, .int (-300)), (19, .int (nI 0)), (18, .int (bI false)), (17, .int (nI en)), (16, .int (nI dv)), (15, .int (nI three)), (14, .int (nI two)), (13, .int (nI one)), (12, .int (nI what)), (0, .ref (ad (0, 0, 0, 0))), (1, .ref b), (2, .int (nI at9)), (3, .ref (ad (35, 0, 0, 0))), (4, .ref (ad (37, 0, 0, 0))), (5, .ref (ad (39, 0, 0, 0))), (6, .ref (ad (43, 0, 0, 0))), (7, .ref (ad (44, 0, 0, 0))), (8, .ref (ad (41, 0, 0, 0))), (9, .ref (ad (42, 0, 0, 0))), (10, .ref (ad (40, 0, 0, 0))), (11, .ref (ad (45, 0, 0, 0)))]) hx hb dL_isDone_631 hl (by decide) rfl (fun ls hl => ?_)
  refine lv_iload hx hb dL_isDone_633 (lv_at hl 1 rfl) ?_
  refine lv_if_eq (tgt := 724) hx hb dL_isDone_635 (by decide) (fun _ => ?_) (fun c => absurd c (by decide))
  refine lv_aload_n hx hb dL_isDone_724 rfl (lv_at hl 9 rfl) ?_
  refine lv_iconst (v := nI 2) hx hb dL_isDone_725 (by decide) ?_
  refine lv_iload hx hb dL_isDone_726 (lv_at hl 4 rfl) ?_
  refine lv_iload hx hb dL_isDone_728 (lv_at hl 3 rfl) ?_
  refine lv_iconst (v := nI 0) hx hb dL_isDone_730 (by decide) ?_
  refine lv_iconst (v := nI 0) hx hb dL_isDone_731 (by decide) ?_
  refine x_doneI X h (x_runSH (n := 6) X h (w_does_delete_I (LL Z) hL (lv := 9) (by decide) (nI dv) (nI en) (nI 0) (nI 0) (x_X6_delete_1 (LL Z) hst hL hG2.ok n mcs hBK (nI dv) (nI en) hck) _) q378 q5 q376 q377 ⟨by decide, by decide, by decide +kernel⟩ rfl (Nat.le_trans (by decide) hR1) (Nat.le_trans (by decide) hR2) ⟨by omega, by omega⟩ hl.1 (Nat.le_of_ble_eq_true rfl) dL_isDone_732 rfl) (fun H locs h => ?_)
  refine lv_iload hx hb dL_isDone_735 (lv_at hl 0 rfl) ?_
  refine lv_icmp_ne (tgt := 744) hx hb dL_isDone_737 (by decide) (fun c => absurd rfl c) (fun _ => ?_)
  refine lv_iconst (v := nI 1) hx hb dL_isDone_740 (by decide) ?_
  refine lv_goto (tgt := 745) hx hb dL_isDone_741 (by decide) ?_
  exact kk H locs ls h

set_option maxHeartbeats 4000000 in
set_option maxRecDepth 100000 in
theorem dt_delS1 (X : Cx p s mth args meth c cL_isDone yL_isDone.cls 26 D tc dz A) (hR1 : 14 ≤ R.frames) (hR2 : 462 ≤ R.locals) (hcR : cells + 1 ≤ R.cells) (hsR : slots + 6 ≤ R.slots) (hL : LV gm Ks) (hst : l.stackTraces = false) (hW : LW gm Ks) (hG2 : GM2 gm) (Z : Mem) (V : Nat → BS) (acts : Nat → Act) (z n m t : Nat) (ac mcs : Nat → Nat) (cn : Nat) (hS : LWS Z gm V acts z n m t ac mcs cn) (hcn : cn < 58) (b at9 : Nat) (what one two three : Nat) (h40 : what < 40) (h60 : one < 6000) (h70 : two < 7000) (h80 : three < 8000) (dv en : Nat) (hdv : dv ≤ 6) (hen : en ≤ 2) (hw : what < 20) (hd : dv < 6) (hk : en < n) (h34 : Z (34, 0, 0, 0) (10 * dv + en) = nI 1) (how : ¬ Z (32, 0, 0, 0) en = nI (dv / 2)) (h : Sx D A ad Ks (lay tc ad gm dz (LL Z)) s H locs) (hl : lv_has ls 26 [(18, .int (bI true)), (17, .int (nI en)), (16, .int (nI dv)), (15, .int (nI three)), (14, .int (nI two)), (13, .int (nI one)), (12, .int (nI what)), (0, .ref (ad (0, 0, 0, 0))), (1, .ref b), (2, .int (nI at9)), (3, .ref (ad (35, 0, 0, 0))), (4, .ref (ad (37, 0, 0, 0))), (5, .ref (ad (39, 0, 0, 0))), (6, .ref (ad (43, 0, 0, 0))), (7, .ref (ad (44, 0, 0, 0))), (8, .ref (ad (41, 0, 0, 0))), (9, .ref (ad (42, 0, 0, 0))), (10, .ref (ad (40, 0, 0, 0))), (11, .ref (ad (45, 0, 0, 0)))])
    (kk : ∀ (H1 : Heap) (locs1 : List Loc) (ls1 : Array Slot), Sx D A ad Ks (lay tc ad gm dz (LL Z)) s H1 locs1 → W p l e R s mth args below meth c H1 locs1 (cells + 1) (slots + 6) Q (F0 mth 745 ls1 [.int (bI true)])) : W p l e R s mth args below meth c H locs cells slots Q (F0 mth 515 ls []) := by
  have hok := hS.2.1
  have hn2 := hS.2.2.1
  have hm10 := hS.2.2.2
  have hN := nr_of hS.1.1
  have ht9 : t ≤ 2000 := by have := hS.1.2.2.2.2.2.2.2.2.2.1; omega
  have hBK := lb_bk (G := Z) hS.1 (fun _ _ => rfl)
  have hR9 := lb_rel0 (G := Z) hS.1.1 (fun _ _ => rfl)
  have hC := hR9.cp en dv (by omega) hd
  have hkn := ck_yes hC h34
  have how9 : LL Z (4, 0, en, 0) 0 = Z (32, 0, 0, 0) en := hR9.gl.ow en (by omega)
  obtain ⟨hx, hb, hmaxL, hown, hts⟩ := id X.1
  refine lv_iload hx hb dL_isDone_515 (lv_at hl 6 rfl) ?_
  refine lv_bipush (v := nI 20) hx hb dL_isDone_517 (by decide) ?_
  refine n_icmp_ge (tgt := 746) hx hb (by omega) (by omega) dL_isDone_519 (by decide) (fun c => absurd hw (by omega)) (fun _ => ?_)
  refine lv_iload hx hb dL_isDone_522 (lv_at hl 0 rfl) ?_
  refine b_if_eq (tgt := 567) hx hb dL_isDone_524 (by decide) (fun c => (Bool.noConfusion c)) (fun _ => ?_)
  refine lv_aload hx hb dL_isDone_527 (lv_at hl 14 rfl) ?_
  refine lv_iconst (v := nI 4) hx hb dL_isDone_529 (by decide) ?_
  refine lv_iload hx hb dL_isDone_530 (lv_at hl 1 rfl) ?_
  refine n_imul hx hb dL_isDone_532 ?_
  refine y_ald X h (fun _ => rfl) (by decide) (hL (44, 0, 0, 0) ⟨by decide, rfl, rfl, rfl⟩) (by omega) (v := Z (32, 0, 0, 0) en) wc_o dL_isDone_533 ?_
  refine lv_iload hx hb dL_isDone_534 (lv_at hl 2 rfl) ?_
  refine lv_iconst (v := nI 2) hx hb dL_isDone_536 (by decide) ?_
  refine n_idiv hx hb (by omega) (by omega) (by omega) dL_isDone_537 ?_
  refine lv_icmp_ne (tgt := 567) hx hb dL_isDone_538 (by decide) (fun _ => ?_) (fun c => absurd c how)
  refine lv_iconst (v := nI 0) hx hb dL_isDone_567 (by decide) ?_
  refine lv_istore (lv' := [(19, .int (nI 0)), (18, .int (bI true)), (17, .int (nI en)), (16, .int (nI dv)), (15, .int (nI three)), (14, .int (nI two)), (13, .int (nI one)), (12, .int (nI what)), (0, .ref (ad (0, 0, 0, 0))), (1, .ref b), (2, .int (nI at9)), (3, .ref (ad (35, 0, 0, 0))), (4, .ref (ad (37, 0, 0, 0))), (5, .ref (ad (39, 0, 0, 0))), (6, .ref (ad (43, 0, 0, 0))), (7, .ref (ad (44, 0, 0, 0))), (8, .ref (ad (41, 0, 0, 0))), (9, .ref (ad (42, 0, 0, 0))), (10, .ref (ad (40, 0, 0, 0))), (11, .ref (ad (45, 0, 0, 0)))]) hx hb dL_isDone_568 hl (by decide) rfl (fun ls hl => ?_)
  refine lv_iload hx hb dL_isDone_570 (lv_at hl 0 rfl) ?_
  refine lv_if_eq (tgt := 602) hx hb dL_isDone_572 (by decide) (fun _ => ?_) (fun c => absurd c (by decide))
  refine lv_iload hx hb dL_isDone_602 (lv_at hl 1 rfl) ?_
  refine b_if_ne (tgt := 613) hx hb dL_isDone_604 (by decide) (fun _ => ?_) (fun c => (Bool.noConfusion c))
  refine lv_iload hx hb dL_isDone_613 (lv_at hl 0 rfl) ?_
  refine lv_if_eq (tgt := 629) hx hb dL_isDone_615 (by decide) (fun _ => ?_) (fun c => absurd c (by decide))
  refine lv_bipush (v := (-100)) hx hb dL_isDone_629 (by decide) ?_
  refine lv_istore (lv' := [(20, .int (-100)), (19, .int (nI 0)), (18, .int (bI true)), (17, .int (nI en)), (16, .int (nI dv)), (15, .int (nI three)), (14, .int (nI two)), (13, .int (nI one)), (12, .int (nI what)), (0, .ref (ad (0, 0, 0, 0))), (1, .ref b), (2, .int (nI at9)), (3, .ref (ad (35, 0, 0, 0))), (4, .ref (ad (37, 0, 0, 0))), (5, .ref (ad (39, 0, 0, 0))), (6, .ref (ad (43, 0, 0, 0))), (7, .ref (ad (44, 0, 0, 0))), (8, .ref (ad (41, 0, 0, 0))), (9, .ref (ad (42, 0, 0, 0))), (10, .ref (ad (40, 0, 0, 0))), (11, .ref (ad (45, 0, 0, 0)))]) hx hb dL_isDone_631 hl (by decide) rfl (fun ls hl => ?_)
  refine lv_iload hx hb dL_isDone_633 (lv_at hl 1 rfl) ?_
  refine lv_if_eq (tgt := 724) hx hb dL_isDone_635 (by decide) (fun _ => ?_) (fun c => absurd c (by decide))
  refine lv_aload_n hx hb dL_isDone_724 rfl (lv_at hl 9 rfl) ?_
  refine lv_iconst (v := nI 2) hx hb dL_isDone_725 (by decide) ?_
  refine lv_iload hx hb dL_isDone_726 (lv_at hl 4 rfl) ?_
  refine lv_iload hx hb dL_isDone_728 (lv_at hl 3 rfl) ?_
  refine lv_iconst (v := nI 0) hx hb dL_isDone_730 (by decide) ?_
  refine lv_iconst (v := nI 0) hx hb dL_isDone_731 (by decide) ?_
  refine x_doneI X h (x_runSH (n := 6) X h (w_does_delete_S (LL Z) hL (lv := 9) (by decide) (nI dv) (nI en) (nI 0) (nI 0) (x_X6_delete_2a (LL Z) hst hL hG2.ok n mcs hBK dv en hd hk hkn (by rw [how9]; exact how)) _) q378 q5 q376 q377 ⟨by decide, by decide, by decide +kernel⟩ rfl (Nat.le_trans (by decide) hR1) (Nat.le_trans (by decide) hR2) ⟨by omega, by omega⟩ hl.1 (Nat.le_of_ble_eq_true rfl) dL_isDone_732 rfl) (fun H locs h => ?_)
  refine lv_iload hx hb dL_isDone_735 (lv_at hl 0 rfl) ?_
  refine lv_icmp_ne (tgt := 744) hx hb dL_isDone_737 (by decide) (fun c => absurd rfl c) (fun _ => ?_)
  refine lv_iconst (v := nI 1) hx hb dL_isDone_740 (by decide) ?_
  refine lv_goto (tgt := 745) hx hb dL_isDone_741 (by decide) ?_
  exact kk H locs ls h

set_option maxHeartbeats 4000000 in
set_option maxRecDepth 100000 in
theorem dt_delS2 (X : Cx p s mth args meth c cL_isDone yL_isDone.cls 26 D tc dz A) (hR1 : 14 ≤ R.frames) (hR2 : 462 ≤ R.locals) (hcR : cells + 1 ≤ R.cells) (hsR : slots + 6 ≤ R.slots) (hL : LV gm Ks) (hst : l.stackTraces = false) (hW : LW gm Ks) (hG2 : GM2 gm) (Z : Mem) (V : Nat → BS) (acts : Nat → Act) (z n m t : Nat) (ac mcs : Nat → Nat) (cn : Nat) (hS : LWS Z gm V acts z n m t ac mcs cn) (hcn : cn < 58) (b at9 : Nat) (what one two three : Nat) (h40 : what < 40) (h60 : one < 6000) (h70 : two < 7000) (h80 : three < 8000) (dv en : Nat) (hdv : dv ≤ 6) (hen : en ≤ 2) (hw : what < 20) (hd : dv < 6) (hk : en < n) (h34 : Z (34, 0, 0, 0) (10 * dv + en) = nI 1) (how : Z (32, 0, 0, 0) en = nI (dv / 2)) (hst1 : ¬ mstR Z dv en m = 1) (h : Sx D A ad Ks (lay tc ad gm dz (LL Z)) s H locs) (hl : lv_has ls 26 [(18, .int (bI true)), (17, .int (nI en)), (16, .int (nI dv)), (15, .int (nI three)), (14, .int (nI two)), (13, .int (nI one)), (12, .int (nI what)), (0, .ref (ad (0, 0, 0, 0))), (1, .ref b), (2, .int (nI at9)), (3, .ref (ad (35, 0, 0, 0))), (4, .ref (ad (37, 0, 0, 0))), (5, .ref (ad (39, 0, 0, 0))), (6, .ref (ad (43, 0, 0, 0))), (7, .ref (ad (44, 0, 0, 0))), (8, .ref (ad (41, 0, 0, 0))), (9, .ref (ad (42, 0, 0, 0))), (10, .ref (ad (40, 0, 0, 0))), (11, .ref (ad (45, 0, 0, 0)))])
    (kk : ∀ (H1 : Heap) (locs1 : List Loc) (ls1 : Array Slot), Sx D A ad Ks (lay tc ad gm dz (LL Z)) s H1 locs1 → W p l e R s mth args below meth c H1 locs1 (cells + 1) (slots + 6) Q (F0 mth 745 ls1 [.int (bI true)])) : W p l e R s mth args below meth c H locs cells slots Q (F0 mth 515 ls []) := by
  have hok := hS.2.1
  have hn2 := hS.2.2.1
  have hm10 := hS.2.2.2
  have hN := nr_of hS.1.1
  have ht9 : t ≤ 2000 := by have := hS.1.2.2.2.2.2.2.2.2.2.1; omega
  have hBK := lb_bk (G := Z) hS.1 (fun _ _ => rfl)
  have hR9 := lb_rel0 (G := Z) hS.1.1 (fun _ _ => rfl)
  have hC := hR9.cp en dv (by omega) hd
  have hkn := ck_yes hC h34
  have how9 : LL Z (4, 0, en, 0) 0 = Z (32, 0, 0, 0) en := hR9.gl.ow en (by omega)
  have hs3 := mst_le Z dv en m
  obtain ⟨hx, hb, hmaxL, hown, hts⟩ := id X.1
  refine lv_iload hx hb dL_isDone_515 (lv_at hl 6 rfl) ?_
  refine lv_bipush (v := nI 20) hx hb dL_isDone_517 (by decide) ?_
  refine n_icmp_ge (tgt := 746) hx hb (by omega) (by omega) dL_isDone_519 (by decide) (fun c => absurd hw (by omega)) (fun _ => ?_)
  refine lv_iload hx hb dL_isDone_522 (lv_at hl 0 rfl) ?_
  refine b_if_eq (tgt := 567) hx hb dL_isDone_524 (by decide) (fun c => (Bool.noConfusion c)) (fun _ => ?_)
  refine lv_aload hx hb dL_isDone_527 (lv_at hl 14 rfl) ?_
  refine lv_iconst (v := nI 4) hx hb dL_isDone_529 (by decide) ?_
  refine lv_iload hx hb dL_isDone_530 (lv_at hl 1 rfl) ?_
  refine n_imul hx hb dL_isDone_532 ?_
  refine y_ald X h (fun _ => rfl) (by decide) (hL (44, 0, 0, 0) ⟨by decide, rfl, rfl, rfl⟩) (by omega) (v := Z (32, 0, 0, 0) en) wc_o dL_isDone_533 ?_
  refine lv_iload hx hb dL_isDone_534 (lv_at hl 2 rfl) ?_
  refine lv_iconst (v := nI 2) hx hb dL_isDone_536 (by decide) ?_
  refine n_idiv hx hb (by omega) (by omega) (by omega) dL_isDone_537 ?_
  refine lv_icmp_ne (tgt := 567) hx hb dL_isDone_538 (by decide) (fun c => absurd how c) (fun _ => ?_)
  refine lv_aload_n hx hb dL_isDone_541 rfl (lv_at hl 10 rfl) ?_
  refine lv_aload hx hb dL_isDone_542 (lv_at hl 13 rfl) ?_
  refine lv_aload hx hb dL_isDone_544 (lv_at hl 15 rfl) ?_
  refine lv_aload hx hb dL_isDone_546 (lv_at hl 16 rfl) ?_
  refine lv_aload hx hb dL_isDone_548 (lv_at hl 17 rfl) ?_
  refine lv_aload hx hb dL_isDone_550 (lv_at hl 18 rfl) ?_
  refine lv_iload hx hb dL_isDone_552 (lv_at hl 2 rfl) ?_
  refine lv_iload hx hb dL_isDone_554 (lv_at hl 1 rfl) ?_
  refine x_doneI X h (x_runS X h (m_L_state Z hL hok.1 hok.k01 n m t hN hn2 hm10 ht9 dv en hd (by omega) _) F_L_state q738 q739 rfl (Nat.le_trans (by decide) hR1) (Nat.le_trans (by decide) hR2) ⟨by omega, by omega⟩ hl.1 (Nat.le_of_ble_eq_true rfl) dL_isDone_556 rfl) (fun H locs h => ?_)
  refine lv_iconst (v := nI 1) hx hb dL_isDone_559 (by decide) ?_
  refine n_icmp_ne (tgt := 567) hx hb (by omega) (by omega) dL_isDone_560 (by decide) (fun _ => ?_) (fun c => absurd c hst1)
  refine lv_iconst (v := nI 0) hx hb dL_isDone_567 (by decide) ?_
  refine lv_istore (lv' := [(19, .int (nI 0)), (18, .int (bI true)), (17, .int (nI en)), (16, .int (nI dv)), (15, .int (nI three)), (14, .int (nI two)), (13, .int (nI one)), (12, .int (nI what)), (0, .ref (ad (0, 0, 0, 0))), (1, .ref b), (2, .int (nI at9)), (3, .ref (ad (35, 0, 0, 0))), (4, .ref (ad (37, 0, 0, 0))), (5, .ref (ad (39, 0, 0, 0))), (6, .ref (ad (43, 0, 0, 0))), (7, .ref (ad (44, 0, 0, 0))), (8, .ref (ad (41, 0, 0, 0))), (9, .ref (ad (42, 0, 0, 0))), (10, .ref (ad (40, 0, 0, 0))), (11, .ref (ad (45, 0, 0, 0)))]) hx hb dL_isDone_568 hl (by decide) rfl (fun ls hl => ?_)
  refine lv_iload hx hb dL_isDone_570 (lv_at hl 0 rfl) ?_
  refine lv_if_eq (tgt := 602) hx hb dL_isDone_572 (by decide) (fun _ => ?_) (fun c => absurd c (by decide))
  refine lv_iload hx hb dL_isDone_602 (lv_at hl 1 rfl) ?_
  refine b_if_ne (tgt := 613) hx hb dL_isDone_604 (by decide) (fun _ => ?_) (fun c => (Bool.noConfusion c))
  refine lv_iload hx hb dL_isDone_613 (lv_at hl 0 rfl) ?_
  refine lv_if_eq (tgt := 629) hx hb dL_isDone_615 (by decide) (fun _ => ?_) (fun c => absurd c (by decide))
  refine lv_bipush (v := (-100)) hx hb dL_isDone_629 (by decide) ?_
  refine lv_istore (lv' := [(20, .int (-100)), (19, .int (nI 0)), (18, .int (bI true)), (17, .int (nI en)), (16, .int (nI dv)), (15, .int (nI three)), (14, .int (nI two)), (13, .int (nI one)), (12, .int (nI what)), (0, .ref (ad (0, 0, 0, 0))), (1, .ref b), (2, .int (nI at9)), (3, .ref (ad (35, 0, 0, 0))), (4, .ref (ad (37, 0, 0, 0))), (5, .ref (ad (39, 0, 0, 0))), (6, .ref (ad (43, 0, 0, 0))), (7, .ref (ad (44, 0, 0, 0))), (8, .ref (ad (41, 0, 0, 0))), (9, .ref (ad (42, 0, 0, 0))), (10, .ref (ad (40, 0, 0, 0))), (11, .ref (ad (45, 0, 0, 0)))]) hx hb dL_isDone_631 hl (by decide) rfl (fun ls hl => ?_)
  refine lv_iload hx hb dL_isDone_633 (lv_at hl 1 rfl) ?_
  refine lv_if_eq (tgt := 724) hx hb dL_isDone_635 (by decide) (fun _ => ?_) (fun c => absurd c (by decide))
  refine lv_aload_n hx hb dL_isDone_724 rfl (lv_at hl 9 rfl) ?_
  refine lv_iconst (v := nI 2) hx hb dL_isDone_725 (by decide) ?_
  refine lv_iload hx hb dL_isDone_726 (lv_at hl 4 rfl) ?_
  refine lv_iload hx hb dL_isDone_728 (lv_at hl 3 rfl) ?_
  refine lv_iconst (v := nI 0) hx hb dL_isDone_730 (by decide) ?_
  refine lv_iconst (v := nI 0) hx hb dL_isDone_731 (by decide) ?_
  refine x_doneI X h (x_runSH (n := 6) X h (w_does_delete_S (LL Z) hL (lv := 9) (by decide) (nI dv) (nI en) (nI 0) (nI 0) (x_X6_delete_2b (LL Z) hst hL hG2.ok n mcs hBK dv en hd hk hkn (by rw [how9]; exact how) (by rw [rl_sto hR9 (by omega) hd]; exact hst1)) _) q378 q5 q376 q377 ⟨by decide, by decide, by decide +kernel⟩ rfl (Nat.le_trans (by decide) hR1) (Nat.le_trans (by decide) hR2) ⟨by omega, by omega⟩ hl.1 (Nat.le_of_ble_eq_true rfl) dL_isDone_732 rfl) (fun H locs h => ?_)
  refine lv_iload hx hb dL_isDone_735 (lv_at hl 0 rfl) ?_
  refine lv_icmp_ne (tgt := 744) hx hb dL_isDone_737 (by decide) (fun c => absurd rfl c) (fun _ => ?_)
  refine lv_iconst (v := nI 1) hx hb dL_isDone_740 (by decide) ?_
  refine lv_goto (tgt := 745) hx hb dL_isDone_741 (by decide) ?_
  exact kk H locs ls h

set_option maxHeartbeats 4000000 in
set_option maxRecDepth 100000 in
theorem dt_delM (X : Cx p s mth args meth c cL_isDone yL_isDone.cls 26 D tc dz A) (hR1 : 14 ≤ R.frames) (hR2 : 462 ≤ R.locals) (hcR : cells + 0 ≤ R.cells) (hsR : slots + 0 ≤ R.slots) (hL : LV gm Ks) (hst : l.stackTraces = false) (hW : LW gm Ks) (hG2 : GM2 gm) (Z : Mem) (V : Nat → BS) (acts : Nat → Act) (z n m t : Nat) (ac mcs : Nat → Nat) (cn : Nat) (hS : LWS Z gm V acts z n m t ac mcs cn) (hcn : cn < 58) (b at9 : Nat) (what one two three : Nat) (h40 : what < 40) (h60 : one < 6000) (h70 : two < 7000) (h80 : three < 8000) (dv en : Nat) (hdv : dv ≤ 6) (hen : en ≤ 2) (hw : what < 20) (hd : dv < 6) (hk : en < n) (h34 : Z (34, 0, 0, 0) (10 * dv + en) = nI 1) (how : Z (32, 0, 0, 0) en = nI (dv / 2)) (hst1 : mstR Z dv en m = 1) (hm : m = 10) (h : Sx D A ad Ks (lay tc ad gm dz (LL Z)) s H locs) (hl : lv_has ls 26 [(18, .int (bI true)), (17, .int (nI en)), (16, .int (nI dv)), (15, .int (nI three)), (14, .int (nI two)), (13, .int (nI one)), (12, .int (nI what)), (0, .ref (ad (0, 0, 0, 0))), (1, .ref b), (2, .int (nI at9)), (3, .ref (ad (35, 0, 0, 0))), (4, .ref (ad (37, 0, 0, 0))), (5, .ref (ad (39, 0, 0, 0))), (6, .ref (ad (43, 0, 0, 0))), (7, .ref (ad (44, 0, 0, 0))), (8, .ref (ad (41, 0, 0, 0))), (9, .ref (ad (42, 0, 0, 0))), (10, .ref (ad (40, 0, 0, 0))), (11, .ref (ad (45, 0, 0, 0)))])
    (kk : ∀ (H1 : Heap) (locs1 : List Loc) (ls1 : Array Slot), Sx D A ad Ks (lay tc ad gm dz (LL Z)) s H1 locs1 → W p l e R s mth args below meth c H1 locs1 cells slots Q (F0 mth 601 ls1 [.int (bI true)])) : W p l e R s mth args below meth c H locs cells slots Q (F0 mth 515 ls []) := by
  have hok := hS.2.1
  have hn2 := hS.2.2.1
  have hm10 := hS.2.2.2
  have hN := nr_of hS.1.1
  have ht9 : t ≤ 2000 := by have := hS.1.2.2.2.2.2.2.2.2.2.1; omega
  have hBK := lb_bk (G := Z) hS.1 (fun _ _ => rfl)
  have hR9 := lb_rel0 (G := Z) hS.1.1 (fun _ _ => rfl)
  have hC := hR9.cp en dv (by omega) hd
  have hkn := ck_yes hC h34
  have how9 : LL Z (4, 0, en, 0) 0 = Z (32, 0, 0, 0) en := hR9.gl.ow en (by omega)
  have hs3 := mst_le Z dv en m
  obtain ⟨hx, hb, hmaxL, hown, hts⟩ := id X.1
  refine lv_iload hx hb dL_isDone_515 (lv_at hl 6 rfl) ?_
  refine lv_bipush (v := nI 20) hx hb dL_isDone_517 (by decide) ?_
  refine n_icmp_ge (tgt := 746) hx hb (by omega) (by omega) dL_isDone_519 (by decide) (fun c => absurd hw (by omega)) (fun _ => ?_)
  refine lv_iload hx hb dL_isDone_522 (lv_at hl 0 rfl) ?_
  refine b_if_eq (tgt := 567) hx hb dL_isDone_524 (by decide) (fun c => (Bool.noConfusion c)) (fun _ => ?_)
  refine lv_aload hx hb dL_isDone_527 (lv_at hl 14 rfl) ?_
  refine lv_iconst (v := nI 4) hx hb dL_isDone_529 (by decide) ?_
  refine lv_iload hx hb dL_isDone_530 (lv_at hl 1 rfl) ?_
  refine n_imul hx hb dL_isDone_532 ?_
  refine y_ald X h (fun _ => rfl) (by decide) (hL (44, 0, 0, 0) ⟨by decide, rfl, rfl, rfl⟩) (by omega) (v := Z (32, 0, 0, 0) en) wc_o dL_isDone_533 ?_
  refine lv_iload hx hb dL_isDone_534 (lv_at hl 2 rfl) ?_
  refine lv_iconst (v := nI 2) hx hb dL_isDone_536 (by decide) ?_
  refine n_idiv hx hb (by omega) (by omega) (by omega) dL_isDone_537 ?_
  refine lv_icmp_ne (tgt := 567) hx hb dL_isDone_538 (by decide) (fun c => absurd how c) (fun _ => ?_)
  refine lv_aload_n hx hb dL_isDone_541 rfl (lv_at hl 10 rfl) ?_
  refine lv_aload hx hb dL_isDone_542 (lv_at hl 13 rfl) ?_
  refine lv_aload hx hb dL_isDone_544 (lv_at hl 15 rfl) ?_
  refine lv_aload hx hb dL_isDone_546 (lv_at hl 16 rfl) ?_
  refine lv_aload hx hb dL_isDone_548 (lv_at hl 17 rfl) ?_
  refine lv_aload hx hb dL_isDone_550 (lv_at hl 18 rfl) ?_
  refine lv_iload hx hb dL_isDone_552 (lv_at hl 2 rfl) ?_
  refine lv_iload hx hb dL_isDone_554 (lv_at hl 1 rfl) ?_
  refine x_doneI X h (x_runS X h (m_L_state Z hL hok.1 hok.k01 n m t hN hn2 hm10 ht9 dv en hd (by omega) _) F_L_state q738 q739 rfl (Nat.le_trans (by decide) hR1) (Nat.le_trans (by decide) hR2) ⟨by omega, by omega⟩ hl.1 (Nat.le_of_ble_eq_true rfl) dL_isDone_556 rfl) (fun H locs h => ?_)
  refine lv_iconst (v := nI 1) hx hb dL_isDone_559 (by decide) ?_
  refine n_icmp_ne (tgt := 567) hx hb (by omega) (by omega) dL_isDone_560 (by decide) (fun c => absurd hst1 c) (fun _ => ?_)
  refine lv_iconst (v := nI 1) hx hb dL_isDone_563 (by decide) ?_
  refine lv_goto (tgt := 568) hx hb dL_isDone_564 (by decide) ?_
  refine lv_istore (lv' := [(19, .int (nI 1)), (18, .int (bI true)), (17, .int (nI en)), (16, .int (nI dv)), (15, .int (nI three)), (14, .int (nI two)), (13, .int (nI one)), (12, .int (nI what)), (0, .ref (ad (0, 0, 0, 0))), (1, .ref b), (2, .int (nI at9)), (3, .ref (ad (35, 0, 0, 0))), (4, .ref (ad (37, 0, 0, 0))), (5, .ref (ad (39, 0, 0, 0))), (6, .ref (ad (43, 0, 0, 0))), (7, .ref (ad (44, 0, 0, 0))), (8, .ref (ad (41, 0, 0, 0))), (9, .ref (ad (42, 0, 0, 0))), (10, .ref (ad (40, 0, 0, 0))), (11, .ref (ad (45, 0, 0, 0)))]) hx hb dL_isDone_568 hl (by decide) rfl (fun ls hl => ?_)
  refine lv_iload hx hb dL_isDone_570 (lv_at hl 0 rfl) ?_
  refine lv_if_eq (tgt := 602) hx hb dL_isDone_572 (by decide) (fun c => absurd c (by decide)) (fun _ => ?_)
  refine lv_aload hx hb dL_isDone_575 (lv_at hl 19 rfl) ?_
  refine lv_iconst (v := nI 2) hx hb dL_isDone_577 (by decide) ?_
  refine y_ald X h (fun _ => rfl) (by decide) (hL (45, 0, 0, 0) ⟨by decide, rfl, rfl, rfl⟩) (by omega) (v := nI m) (gc_2.trans hN.2.2) dL_isDone_578 ?_
  refine lv_bipush (v := nI 10) hx hb dL_isDone_579 (by decide) ?_
  refine n_icmp_ne (tgt := 602) hx hb (by omega) (by omega) dL_isDone_581 (by decide) (fun c => absurd hm c) (fun _ => ?_)
  refine lv_aload_n hx hb dL_isDone_584 rfl (lv_at hl 8 rfl) ?_
  refine lv_iload hx hb dL_isDone_585 (lv_at hl 3 rfl) ?_
  refine lv_iload hx hb dL_isDone_587 (lv_at hl 2 rfl) ?_
  refine x_doneI X h (x_runV X h (k := (0, 0, 0, 0)) (m_X6_state (LL Z) hL hG2.ok n mcs hBK dv en hd hk _) F_X6_state q670 q671 q672 (hL (0, 0, 0, 0) ⟨rfl, rfl, rfl⟩) rfl rfl rfl (Nat.le_trans (by decide) hR1) (Nat.le_trans (by decide) hR2) ⟨by omega, by omega⟩ hl.1 (Nat.le_of_ble_eq_true rfl) dL_isDone_589 rfl) (fun H locs h => ?_)
  rw [rl_sto hR9 (by omega) hd, hst1]
  refine lv_iconst (v := nI 1) hx hb dL_isDone_592 (by decide) ?_
  refine lv_icmp_ne (tgt := 600) hx hb dL_isDone_593 (by decide) (fun c => absurd c (by decide)) (fun _ => ?_)
  refine lv_iconst (v := nI 1) hx hb dL_isDone_596 (by decide) ?_
  refine lv_goto (tgt := 601) hx hb dL_isDone_597 (by decide) ?_
  exact kk H locs ls h

set_option maxHeartbeats 4000000 in
set_option maxRecDepth 100000 in
theorem dn_7 (X : Cx p s mth args meth c cL_isDone yL_isDone.cls 26 D tc dz A) (hR1 : 14 ≤ R.frames) (hR2 : 462 ≤ R.locals) (hcR : cells + 0 ≤ R.cells) (hsR : slots + 0 ≤ R.slots) (hL : LV gm Ks) (hst : l.stackTraces = false) (hW : LW gm Ks) (hG2 : GM2 gm) (Z : Mem) (V : Nat → BS) (acts : Nat → Act) (z n m t : Nat) (ac mcs : Nat → Nat) (cn : Nat) (hS : LWS Z gm V acts z n m t ac mcs cn) (hcn : cn < 58) (b at9 : Nat) (what one two three : Nat) (h40 : what < 40) (h60 : one < 6000) (h70 : two < 7000) (h80 : three < 8000) (dv en : Nat) (hdv : dv ≤ 6) (hen : en ≤ 2) (kn : Bool) (hw : what < 25) (h : Sx D A ad Ks (lay tc ad gm dz (LL Z)) s H locs) (hl : lv_has ls 26 [(18, .int (bI kn)), (17, .int (nI en)), (16, .int (nI dv)), (15, .int (nI three)), (14, .int (nI two)), (13, .int (nI one)), (12, .int (nI what)), (0, .ref (ad (0, 0, 0, 0))), (1, .ref b), (2, .int (nI at9)), (3, .ref (ad (35, 0, 0, 0))), (4, .ref (ad (37, 0, 0, 0))), (5, .ref (ad (39, 0, 0, 0))), (6, .ref (ad (43, 0, 0, 0))), (7, .ref (ad (44, 0, 0, 0))), (8, .ref (ad (41, 0, 0, 0))), (9, .ref (ad (42, 0, 0, 0))), (10, .ref (ad (40, 0, 0, 0))), (11, .ref (ad (45, 0, 0, 0)))])
    (kk : ∀ (pn : Nat), pn ≤ 3 → ∀ (H1 : Heap) (locs1 : List Loc) (ls1 : Array Slot), Sx D A ad Ks (lay tc ad gm dz (LL Z)) s H1 locs1 → lv_has ls1 26 [(19, .int (nI pn)), (18, .int (bI kn)), (17, .int (nI en)), (16, .int (nI dv)), (15, .int (nI three)), (14, .int (nI two)), (13, .int (nI one)), (12, .int (nI what)), (0, .ref (ad (0, 0, 0, 0))), (1, .ref b), (2, .int (nI at9)), (3, .ref (ad (35, 0, 0, 0))), (4, .ref (ad (37, 0, 0, 0))), (5, .ref (ad (39, 0, 0, 0))), (6, .ref (ad (43, 0, 0, 0))), (7, .ref (ad (44, 0, 0, 0))), (8, .ref (ad (41, 0, 0, 0))), (9, .ref (ad (42, 0, 0, 0))), (10, .ref (ad (40, 0, 0, 0))), (11, .ref (ad (45, 0, 0, 0)))] → W p l e R s mth args below meth c H1 locs1 cells slots Q (F0 mth 771 ls1 [])) : W p l e R s mth args below meth c H locs cells slots Q (F0 mth 746 ls []) := by
  have hok := hS.2.1
  have hn2 := hS.2.2.1
  have hm10 := hS.2.2.2
  have hN := nr_of hS.1.1
  have ht9 : t ≤ 2000 := by have := hS.1.2.2.2.2.2.2.2.2.2.1; omega
  have hBK := lb_bk (G := Z) hS.1 (fun _ _ => rfl)
  have hR9 := lb_rel0 (G := Z) hS.1.1 (fun _ _ => rfl)
  obtain ⟨hx, hb, hmaxL, hown, hts⟩ := id X.1
  refine lv_iload hx hb dL_isDone_746 (lv_at hl 6 rfl) ?_
  refine lv_bipush (v := nI 25) hx hb dL_isDone_748 (by decide) ?_
  refine n_icmp_ge (tgt := 1061) hx hb (by omega) (by omega) dL_isDone_750 (by decide) (fun c => absurd hw (by omega)) (fun _ => ?_)
  refine lv_iload hx hb dL_isDone_753 (lv_at hl 3 rfl) ?_
  refine lv_bipush (v := nI 30) hx hb dL_isDone_755 (by decide) ?_
  refine n_irem hx hb (by omega) (by omega) (by omega) dL_isDone_757 ?_
  refine n_if_ne (tgt := 765) hx hb (by omega) dL_isDone_758 (by decide) (fun c_758 => ?_) (fun c_758 => ?_)
  · skip
    refine lv_iload hx hb dL_isDone_765 (lv_at hl 3 rfl) ?_
    refine lv_iconst (v := nI 3) hx hb dL_isDone_767 (by decide) ?_
    refine n_irem hx hb (by omega) (by omega) (by omega) dL_isDone_768 ?_
    refine lv_istore (lv' := [(19, .int (nI (three % 3))), (18, .int (bI kn)), (17, .int (nI en)), (16, .int (nI dv)), (15, .int (nI three)), (14, .int (nI two)), (13, .int (nI one)), (12, .int (nI what)), (0, .ref (ad (0, 0, 0, 0))), (1, .ref b), (2, .int (nI at9)), (3, .ref (ad (35, 0, 0, 0))), (4, .ref (ad (37, 0, 0, 0))), (5, .ref (ad (39, 0, 0, 0))), (6, .ref (ad (43, 0, 0, 0))), (7, .ref (ad (44, 0, 0, 0))), (8, .ref (ad (41, 0, 0, 0))), (9, .ref (ad (42, 0, 0, 0))), (10, .ref (ad (40, 0, 0, 0))), (11, .ref (ad (45, 0, 0, 0)))]) hx hb dL_isDone_769 hl (by decide) rfl (fun ls hl => ?_)
    exact kk (three % 3) (by omega) H locs ls h (lv_sub hl [0, 1, 2, 3, 4, 5, 6, 7, 8, 9, 10, 11, 12, 13, 14, 15, 16, 17, 18, 19] rfl)
  · skip
    refine lv_iconst (v := nI 3) hx hb dL_isDone_761 (by decide) ?_
    refine lv_goto (tgt := 769) hx hb dL_isDone_762 (by decide) ?_
    refine lv_istore (lv' := [(19, .int (nI 3)), (18, .int (bI kn)), (17, .int (nI en)), (16, .int (nI dv)), (15, .int (nI three)), (14, .int (nI two)), (13, .int (nI one)), (12, .int (nI what)), (0, .ref (ad (0, 0, 0, 0))), (1, .ref b), (2, .int (nI at9)), (3, .ref (ad (35, 0, 0, 0))), (4, .ref (ad (37, 0, 0, 0))), (5, .ref (ad (39, 0, 0, 0))), (6, .ref (ad (43, 0, 0, 0))), (7, .ref (ad (44, 0, 0, 0))), (8, .ref (ad (41, 0, 0, 0))), (9, .ref (ad (42, 0, 0, 0))), (10, .ref (ad (40, 0, 0, 0))), (11, .ref (ad (45, 0, 0, 0)))]) hx hb dL_isDone_769 hl (by decide) rfl (fun ls hl => ?_)
    exact kk (3) (by omega) H locs ls h (lv_sub hl [0, 1, 2, 3, 4, 5, 6, 7, 8, 9, 10, 11, 12, 13, 14, 15, 16, 17, 18, 19] rfl)

set_option maxHeartbeats 4000000 in
set_option maxRecDepth 100000 in
theorem dn_8 (X : Cx p s mth args meth c cL_isDone yL_isDone.cls 26 D tc dz A) (hR1 : 14 ≤ R.frames) (hR2 : 462 ≤ R.locals) (hcR : cells + 0 ≤ R.cells) (hsR : slots + 0 ≤ R.slots) (hL : LV gm Ks) (hst : l.stackTraces = false) (hW : LW gm Ks) (hG2 : GM2 gm) (Z : Mem) (V : Nat → BS) (acts : Nat → Act) (z n m t : Nat) (ac mcs : Nat → Nat) (cn : Nat) (hS : LWS Z gm V acts z n m t ac mcs cn) (hcn : cn < 58) (b at9 : Nat) (what one two three : Nat) (h40 : what < 40) (h60 : one < 6000) (h70 : two < 7000) (h80 : three < 8000) (dv en : Nat) (hdv : dv ≤ 6) (hen : en ≤ 2) (kn : Bool) (pn : Nat) (h : Sx D A ad Ks (lay tc ad gm dz (LL Z)) s H locs) (hl : lv_has ls 26 [(19, .int (nI pn)), (18, .int (bI kn)), (17, .int (nI en)), (16, .int (nI dv)), (15, .int (nI three)), (14, .int (nI two)), (13, .int (nI one)), (12, .int (nI what)), (0, .ref (ad (0, 0, 0, 0))), (1, .ref b), (2, .int (nI at9)), (3, .ref (ad (35, 0, 0, 0))), (4, .ref (ad (37, 0, 0, 0))), (5, .ref (ad (39, 0, 0, 0))), (6, .ref (ad (43, 0, 0, 0))), (7, .ref (ad (44, 0, 0, 0))), (8, .ref (ad (41, 0, 0, 0))), (9, .ref (ad (42, 0, 0, 0))), (10, .ref (ad (40, 0, 0, 0))), (11, .ref (ad (45, 0, 0, 0)))])
    (kk : ∀ (st9 : Nat), st9 ≤ 16 → ∀ (H1 : Heap) (locs1 : List Loc) (ls1 : Array Slot), Sx D A ad Ks (lay tc ad gm dz (LL Z)) s H1 locs1 → lv_has ls1 26 [(20, .int (nI st9)), (19, .int (nI pn)), (18, .int (bI kn)), (17, .int (nI en)), (16, .int (nI dv)), (15, .int (nI three)), (14, .int (nI two)), (13, .int (nI one)), (12, .int (nI what)), (0, .ref (ad (0, 0, 0, 0))), (1, .ref b), (2, .int (nI at9)), (3, .ref (ad (35, 0, 0, 0))), (4, .ref (ad (37, 0, 0, 0))), (5, .ref (ad (39, 0, 0, 0))), (6, .ref (ad (43, 0, 0, 0))), (7, .ref (ad (44, 0, 0, 0))), (8, .ref (ad (41, 0, 0, 0))), (9, .ref (ad (42, 0, 0, 0))), (10, .ref (ad (40, 0, 0, 0))), (11, .ref (ad (45, 0, 0, 0)))] → W p l e R s mth args below meth c H1 locs1 cells slots Q (F0 mth 796 ls1 [])) : W p l e R s mth args below meth c H locs cells slots Q (F0 mth 771 ls []) := by
  have hok := hS.2.1
  have hn2 := hS.2.2.1
  have hm10 := hS.2.2.2
  have hN := nr_of hS.1.1
  have ht9 : t ≤ 2000 := by have := hS.1.2.2.2.2.2.2.2.2.2.1; omega
  have hBK := lb_bk (G := Z) hS.1 (fun _ _ => rfl)
  have hR9 := lb_rel0 (G := Z) hS.1.1 (fun _ _ => rfl)
  obtain ⟨hx, hb, hmaxL, hown, hts⟩ := id X.1
  refine lv_iload hx hb dL_isDone_771 (lv_at hl 4 rfl) ?_
  refine lv_iconst (v := nI 3) hx hb dL_isDone_773 (by decide) ?_
  refine n_idiv hx hb (by omega) (by omega) (by omega) dL_isDone_774 ?_
  refine lv_bipush (v := nI 20) hx hb dL_isDone_775 (by decide) ?_
  refine n_irem hx hb (by omega) (by omega) (by omega) dL_isDone_777 ?_
  refine n_if_ne (tgt := 786) hx hb (by omega) dL_isDone_778 (by decide) (fun c_778 => ?_) (fun c_778 => ?_)
  · skip
    refine lv_iload hx hb dL_isDone_786 (lv_at hl 4 rfl) ?_
    refine lv_bipush (v := nI 60) hx hb dL_isDone_788 (by decide) ?_
    refine n_idiv hx hb (by omega) (by omega) (by omega) dL_isDone_790 ?_
    refine lv_bipush (v := nI 16) hx hb dL_isDone_791 (by decide) ?_
    refine n_irem hx hb (by omega) (by omega) (by omega) dL_isDone_793 ?_
    refine lv_istore (lv' := [(20, .int (nI ((three / 60) % 16))), (19, .int (nI pn)), (18, .int (bI kn)), (17, .int (nI en)), (16, .int (nI dv)), (15, .int (nI three)), (14, .int (nI two)), (13, .int (nI one)), (12, .int (nI what)), (0, .ref (ad (0, 0, 0, 0))), (1, .ref b), (2, .int (nI at9)), (3, .ref (ad (35, 0, 0, 0))), (4, .ref (ad (37, 0, 0, 0))), (5, .ref (ad (39, 0, 0, 0))), (6, .ref (ad (43, 0, 0, 0))), (7, .ref (ad (44, 0, 0, 0))), (8, .ref (ad (41, 0, 0, 0))), (9, .ref (ad (42, 0, 0, 0))), (10, .ref (ad (40, 0, 0, 0))), (11, .ref (ad (45, 0, 0, 0)))]) hx hb dL_isDone_794 hl (by decide) rfl (fun ls hl => ?_)
    exact kk ((three / 60) % 16) (by omega) H locs ls h (lv_sub hl [0, 1, 2, 3, 4, 5, 6, 7, 8, 9, 10, 11, 12, 13, 14, 15, 16, 17, 18, 19, 20] rfl)
  · skip
    refine lv_bipush (v := nI 16) hx hb dL_isDone_781 (by decide) ?_
    refine lv_goto (tgt := 794) hx hb dL_isDone_783 (by decide) ?_
    refine lv_istore (lv' := [(20, .int (nI 16)), (19, .int (nI pn)), (18, .int (bI kn)), (17, .int (nI en)), (16, .int (nI dv)), (15, .int (nI three)), (14, .int (nI two)), (13, .int (nI one)), (12, .int (nI what)), (0, .ref (ad (0, 0, 0, 0))), (1, .ref b), (2, .int (nI at9)), (3, .ref (ad (35, 0, 0, 0))), (4, .ref (ad (37, 0, 0, 0))), (5, .ref (ad (39, 0, 0, 0))), (6, .ref (ad (43, 0, 0, 0))), (7, .ref (ad (44, 0, 0, 0))), (8, .ref (ad (41, 0, 0, 0))), (9, .ref (ad (42, 0, 0, 0))), (10, .ref (ad (40, 0, 0, 0))), (11, .ref (ad (45, 0, 0, 0)))]) hx hb dL_isDone_794 hl (by decide) rfl (fun ls hl => ?_)
    exact kk (16) (by omega) H locs ls h (lv_sub hl [0, 1, 2, 3, 4, 5, 6, 7, 8, 9, 10, 11, 12, 13, 14, 15, 16, 17, 18, 19, 20] rfl)

set_option maxHeartbeats 4000000 in
set_option maxRecDepth 100000 in
theorem dt_shrI0 (X : Cx p s mth args meth c cL_isDone yL_isDone.cls 26 D tc dz A) (hR1 : 14 ≤ R.frames) (hR2 : 462 ≤ R.locals) (hcR : cells + 1 ≤ R.cells) (hsR : slots + 6 ≤ R.slots) (hL : LV gm Ks) (hst : l.stackTraces = false) (hW : LW gm Ks) (hG2 : GM2 gm) (Z : Mem) (V : Nat → BS) (acts : Nat → Act) (z n m t : Nat) (ac mcs : Nat → Nat) (cn : Nat) (hS : LWS Z gm V acts z n m t ac mcs cn) (hcn : cn < 58) (b at9 : Nat) (what one two three : Nat) (h40 : what < 40) (h60 : one < 6000) (h70 : two < 7000) (h80 : three < 8000) (dv en : Nat) (hdv : dv ≤ 6) (hen : en ≤ 2) (pn st9 : Nat) (hpn : pn ≤ 3) (hst9 : st9 ≤ 16) (hck : ckn (LL Z) 0 n (nI dv) (nI en) = false) (h : Sx D A ad Ks (lay tc ad gm dz (LL Z)) s H locs) (hl : lv_has ls 26 [(20, .int (nI st9)), (19, .int (nI pn)), (18, .int (bI false)), (17, .int (nI en)), (16, .int (nI dv)), (15, .int (nI three)), (14, .int (nI two)), (13, .int (nI one)), (12, .int (nI what)), (0, .ref (ad (0, 0, 0, 0))), (1, .ref b), (2, .int (nI at9)), (3, .ref (ad (35, 0, 0, 0))), (4, .ref (ad (37, 0, 0, 0))), (5, .ref (ad (39, 0, 0, 0))), (6, .ref (ad (43, 0, 0, 0))), (7, .ref (ad (44, 0, 0, 0))), (8, .ref (ad (41, 0, 0, 0))), (9, .ref (ad (42, 0, 0, 0))), (10, .ref (ad (40, 0, 0, 0))), (11, .ref (ad (45, 0, 0, 0)))])
    (kk : ∀ (H1 : Heap) (locs1 : List Loc) (ls1 : Array Slot), Sx D A ad Ks (lay tc ad gm dz (LL Z)) s H1 locs1 → W p l e R s mth args below meth c H1 locs1 (cells + 1) (slots + 6) Q (F0 mth 1060 ls1 [.int (bI true)])) : W p l e R s mth args below meth c H locs cells slots Q (F0 mth 796 ls []) := by
  have hok := hS.2.1
  have hn2 := hS.2.2.1
  have hm10 := hS.2.2.2
  have hN := nr_of hS.1.1
  have ht9 : t ≤ 2000 := by have := hS.1.2.2.2.2.2.2.2.2.2.1; omega
  have hBK := lb_bk (G := Z) hS.1 (fun _ _ => rfl)
  have hR9 := lb_rel0 (G := Z) hS.1.1 (fun _ _ => rfl)
  obtain ⟨hx, hb, hmaxL, hown, hts⟩ := id X.1
  refine lv_iload hx hb dL_isDone_796 (lv_at hl 2 rfl) ?_
  refine b_if_eq (tgt := 841) hx hb dL_isDone_798 (by decide) (fun _ => ?_) (fun c => (Bool.noConfusion c))
  refine lv_iconst (v := nI 0) hx hb dL_isDone_841 (by decide) ?_
  refine lv_istore (lv' := [(21, .int (nI 0)), (20, .int (nI st9)), (19, .int (nI pn)), (18, .int (bI false)), (17, .int (nI en)), (16, .int (nI dv)), (15, .int (nI three)), (14, .int (nI two)), (13, .int (nI one)), (12, .int (nI what)), (0, .ref (ad (0, 0, 0, 0))), (1, .ref b), (2, .int (nI at9)), (3, .ref (ad (35, 0, 0, 0))), (4, .ref (ad (37, 0, 0, 0))), (5, .ref (ad (39, 0, 0, 0))), (6, .ref (ad (43, 0, 0, 0))), (7, .ref (ad (44, 0, 0, 0))), (8, .ref (ad (41, 0, 0, 0))), (9, .ref (ad (42, 0, 0, 0))), (10, .ref (ad (40, 0, 0, 0))), (11, .ref (ad (45, 0, 0, 0)))]) hx hb dL_isDone_842 hl (by decide) rfl (fun ls hl => ?_)
  refine lv_iload hx hb dL_isDone_844 (lv_at hl 3 rfl) ?_
  refine b_if_eq (tgt := 855) hx hb dL_isDone_846 (by decide) (fun _ => ?_) (fun c => (Bool.noConfusion c))
  refine lv_sipush (v := (-300)) hx hb dL_isDone_855 (by decide) ?_
  refine lv_goto (tgt := 896) hx hb dL_isDone_858 (by decide) ?_
  refine lv_istore (lv' := [(22, .int (-300)), (21, .int (nI 0)), (20, .int (nI st9)), (19, .int (nI pn)), (18, .int (bI false)), (17, .int (nI en)), (16, .int (nI dv)), (15, .int (nI three)), (14, .int (nI two)), (13, .int (nI one)), (12, .int (nI what)), (0, .ref (ad (0, 0, 0, 0))), (1, .ref b), (2, .int (nI at9)), (3, .ref (ad (35, 0, 0, 0))), (4, .ref (ad (37, 0, 0, 0))), (5, .ref (ad (39, 0, 0, 0))), (6, .ref (ad (43, 0, 0, 0))), (7, .ref (ad (44, 0, 0, 0))), (8, .ref (ad (41, 0, 0, 0))), (9, .ref (ad (42, 0, 0, 0))), (10, .ref (ad (40, 0, 0, 0))), (11, .ref (ad (45, 0, 0, 0)))]) hx hb dL_isDone_896 hl (by decide) rfl (fun ls hl => ?_)
  refine lv_iload hx hb dL_isDone_898 (lv_at hl 1 rfl) ?_
  refine lv_if_eq (tgt := 1037) hx hb dL_isDone_900 (by decide) (fun _ => ?_) (fun c => absurd c (by decide))
  refine lv_aload_n hx hb dL_isDone_1037 rfl (lv_at hl 11 rfl) ?_
  refine lv_iconst (v := nI 3) hx hb dL_isDone_1038 (by decide) ?_
  refine lv_iload hx hb dL_isDone_1039 (lv_at hl 6 rfl) ?_
  refine lv_iload hx hb dL_isDone_1041 (lv_at hl 5 rfl) ?_
  refine lv_iload hx hb dL_isDone_1043 (lv_at hl 3 rfl) ?_
  refine lv_iload hx hb dL_isDone_1045 (lv_at hl 2 rfl) ?_
  refine x_doneI X h (x_runSH (n := 6) X h (w_does_share_I (LL Z) hL (lv := 9) (by decide) (nI dv) (nI en) (nI pn) (nI st9) (x_X6_share_1 (LL Z) hst hL hG2.ok n mcs hBK (nI dv) (nI en) (nI pn) (nI st9) (by rw [hck, Bool.false_and])) _) q378 q5 q376 q377 ⟨by decide, by decide, by decide +kernel⟩ rfl (Nat.le_trans (by decide) hR1) (Nat.le_trans (by decide) hR2) ⟨by omega, by omega⟩ hl.1 (Nat.le_of_ble_eq_true rfl) dL_isDone_1047 rfl) (fun H locs h => ?_)
  refine lv_iload hx hb dL_isDone_1050 (lv_at hl 0 rfl) ?_
  refine lv_icmp_ne (tgt := 1059) hx hb dL_isDone_1052 (by decide) (fun c => absurd rfl c) (fun _ => ?_)
  refine lv_iconst (v := nI 1) hx hb dL_isDone_1055 (by decide) ?_
  refine lv_goto (tgt := 1060) hx hb dL_isDone_1056 (by decide) ?_
  exact kk H locs ls h

set_option maxHeartbeats 4000000 in
set_option maxRecDepth 100000 in
theorem dt_shrI3 (X : Cx p s mth args meth c cL_isDone yL_isDone.cls 26 D tc dz A) (hR1 : 14 ≤ R.frames) (hR2 : 462 ≤ R.locals) (hcR : cells + 1 ≤ R.cells) (hsR : slots + 6 ≤ R.slots) (hL : LV gm Ks) (hst : l.stackTraces = false) (hW : LW gm Ks) (hG2 : GM2 gm) (Z : Mem) (V : Nat → BS) (acts : Nat → Act) (z n m t : Nat) (ac mcs : Nat → Nat) (cn : Nat) (hS : LWS Z gm V acts z n m t ac mcs cn) (hcn : cn < 58) (b at9 : Nat) (what one two three : Nat) (h40 : what < 40) (h60 : one < 6000) (h70 : two < 7000) (h80 : three < 8000) (dv en : Nat) (hdv : dv ≤ 6) (hen : en ≤ 2) (st9 : Nat) (hst9 : st9 ≤ 16) (hd : dv < 6) (hk : en < n) (h34 : Z (34, 0, 0, 0) (10 * dv + en) = nI 1) (h : Sx D A ad Ks (lay tc ad gm dz (LL Z)) s H locs) (hl : lv_has ls 26 [(20, .int (nI st9)), (19, .int (nI 3)), (18, .int (bI true)), (17, .int (nI en)), (16, .int (nI dv)), (15, .int (nI three)), (14, .int (nI two)), (13, .int (nI one)), (12, .int (nI what)), (0, .ref (ad (0, 0, 0, 0))), (1, .ref b), (2, .int (nI at9)), (3, .ref (ad (35, 0, 0, 0))), (4, .ref (ad (37, 0, 0, 0))), (5, .ref (ad (39, 0, 0, 0))), (6, .ref (ad (43, 0, 0, 0))), (7, .ref (ad (44, 0, 0, 0))), (8, .ref (ad (41, 0, 0, 0))), (9, .ref (ad (42, 0, 0, 0))), (10, .ref (ad (40, 0, 0, 0))), (11, .ref (ad (45, 0, 0, 0)))])
    (kk : ∀ (H1 : Heap) (locs1 : List Loc) (ls1 : Array Slot), Sx D A ad Ks (lay tc ad gm dz (LL Z)) s H1 locs1 → W p l e R s mth args below meth c H1 locs1 (cells + 1) (slots + 6) Q (F0 mth 1060 ls1 [.int (bI true)])) : W p l e R s mth args below meth c H locs cells slots Q (F0 mth 796 ls []) := by
  have hok := hS.2.1
  have hn2 := hS.2.2.1
  have hm10 := hS.2.2.2
  have hN := nr_of hS.1.1
  have ht9 : t ≤ 2000 := by have := hS.1.2.2.2.2.2.2.2.2.2.1; omega
  have hBK := lb_bk (G := Z) hS.1 (fun _ _ => rfl)
  have hR9 := lb_rel0 (G := Z) hS.1.1 (fun _ _ => rfl)
  have hC := hR9.cp en dv (by omega) hd
  have hkn := ck_yes hC h34
  have how9 : LL Z (4, 0, en, 0) 0 = Z (32, 0, 0, 0) en := hR9.gl.ow en (by omega)
  obtain ⟨hx, hb, hmaxL, hown, hts⟩ := id X.1
  refine lv_iload hx hb dL_isDone_796 (lv_at hl 2 rfl) ?_
  refine b_if_eq (tgt := 841) hx hb dL_isDone_798 (by decide) (fun c => (Bool.noConfusion c)) (fun _ => ?_)
  refine lv_iload hx hb dL_isDone_801 (lv_at hl 1 rfl) ?_
  refine lv_iconst (v := nI 3) hx hb dL_isDone_803 (by decide) ?_
  refine lv_icmp_ge (tgt := 841) hx hb dL_isDone_804 (by decide) (fun _ => ?_) (fun c => absurd c (by decide))
  refine lv_iconst (v := nI 0) hx hb dL_isDone_841 (by decide) ?_
  refine lv_istore (lv' := [(21, .int (nI 0)), (20, .int (nI st9)), (19, .int (nI 3)), (18, .int (bI true)), (17, .int (nI en)), (16, .int (nI dv)), (15, .int (nI three)), (14, .int (nI two)), (13, .int (nI one)), (12, .int (nI what)), (0, .ref (ad (0, 0, 0, 0))), (1, .ref b), (2, .int (nI at9)), (3, .ref (ad (35, 0, 0, 0))), (4, .ref (ad (37, 0, 0, 0))), (5, .ref (ad (39, 0, 0, 0))), (6, .ref (ad (43, 0, 0, 0))), (7, .ref (ad (44, 0, 0, 0))), (8, .ref (ad (41, 0, 0, 0))), (9, .ref (ad (42, 0, 0, 0))), (10, .ref (ad (40, 0, 0, 0))), (11, .ref (ad (45, 0, 0, 0)))]) hx hb dL_isDone_842 hl (by decide) rfl (fun ls hl => ?_)
  refine lv_iload hx hb dL_isDone_844 (lv_at hl 3 rfl) ?_
  refine b_if_eq (tgt := 855) hx hb dL_isDone_846 (by decide) (fun c => (Bool.noConfusion c)) (fun _ => ?_)
  refine lv_iload hx hb dL_isDone_849 (lv_at hl 2 rfl) ?_
  refine lv_iconst (v := nI 3) hx hb dL_isDone_851 (by decide) ?_
  refine lv_icmp_ne (tgt := 861) hx hb dL_isDone_852 (by decide) (fun c => absurd c (by decide)) (fun _ => ?_)
  refine lv_sipush (v := (-300)) hx hb dL_isDone_855 (by decide) ?_
  refine lv_goto (tgt := 896) hx hb dL_isDone_858 (by decide) ?_
  refine lv_istore (lv' := [(22, .int (-300)), (21, .int (nI 0)), (20, .int (nI st9)), (19, .int (nI 3)), (18, .int (bI true)), (17, .int (nI en)), (16, .int (nI dv)), (15, .int (nI three)), (14, .int (nI two)), (13, .int (nI one)), (12, .int (nI what)), (0, .ref (ad (0, 0, 0, 0))), (1, .ref b), (2, .int (nI at9)), (3, .ref (ad (35, 0, 0, 0))), (4, .ref (ad (37, 0, 0, 0))), (5, .ref (ad (39, 0, 0, 0))), (6, .ref (ad (43, 0, 0, 0))), (7, .ref (ad (44, 0, 0, 0))), (8, .ref (ad (41, 0, 0, 0))), (9, .ref (ad (42, 0, 0, 0))), (10, .ref (ad (40, 0, 0, 0))), (11, .ref (ad (45, 0, 0, 0)))]) hx hb dL_isDone_896 hl (by decide) rfl (fun ls hl => ?_)
  refine lv_iload hx hb dL_isDone_898 (lv_at hl 1 rfl) ?_
  refine lv_if_eq (tgt := 1037) hx hb dL_isDone_900 (by decide) (fun _ => ?_) (fun c => absurd c (by decide))
  refine lv_aload_n hx hb dL_isDone_1037 rfl (lv_at hl 11 rfl) ?_
  refine lv_iconst (v := nI 3) hx hb dL_isDone_1038 (by decide) ?_
  refine lv_iload hx hb dL_isDone_1039 (lv_at hl 6 rfl) ?_
  refine lv_iload hx hb dL_isDone_1041 (lv_at hl 5 rfl) ?_
  refine lv_iload hx hb dL_isDone_1043 (lv_at hl 3 rfl) ?_
  refine lv_iload hx hb dL_isDone_1045 (lv_at hl 2 rfl) ?_
  refine x_doneI X h (x_runSH (n := 6) X h (w_does_share_I (LL Z) hL (lv := 9) (by decide) (nI dv) (nI en) (nI 3) (nI st9) (x_X6_share_1 (LL Z) hst hL hG2.ok n mcs hBK (nI dv) (nI en) (nI 3) (nI st9) (by rw [show isPer (nI 3) = false by decide, Bool.and_false])) _) q378 q5 q376 q377 ⟨by decide, by decide, by decide +kernel⟩ rfl (Nat.le_trans (by decide) hR1) (Nat.le_trans (by decide) hR2) ⟨by omega, by omega⟩ hl.1 (Nat.le_of_ble_eq_true rfl) dL_isDone_1047 rfl) (fun H locs h => ?_)
  refine lv_iload hx hb dL_isDone_1050 (lv_at hl 0 rfl) ?_
  refine lv_icmp_ne (tgt := 1059) hx hb dL_isDone_1052 (by decide) (fun c => absurd rfl c) (fun _ => ?_)
  refine lv_iconst (v := nI 1) hx hb dL_isDone_1055 (by decide) ?_
  refine lv_goto (tgt := 1060) hx hb dL_isDone_1056 (by decide) ?_
  exact kk H locs ls h

set_option maxHeartbeats 4000000 in
set_option maxRecDepth 100000 in
theorem dt_shrA (X : Cx p s mth args meth c cL_isDone yL_isDone.cls 26 D tc dz A) (hR1 : 14 ≤ R.frames) (hR2 : 462 ≤ R.locals) (hcR : cells + 1 ≤ R.cells) (hsR : slots + 6 ≤ R.slots) (hL : LV gm Ks) (hst : l.stackTraces = false) (hW : LW gm Ks) (hG2 : GM2 gm) (Z : Mem) (V : Nat → BS) (acts : Nat → Act) (z n m t : Nat) (ac mcs : Nat → Nat) (cn : Nat) (hS : LWS Z gm V acts z n m t ac mcs cn) (hcn : cn < 58) (b at9 : Nat) (what one two three : Nat) (h40 : what < 40) (h60 : one < 6000) (h70 : two < 7000) (h80 : three < 8000) (dv en : Nat) (hdv : dv ≤ 6) (hen : en ≤ 2) (pn : Nat) (hpn : pn < 3) (hd : dv < 6) (hk : en < n) (h34 : Z (34, 0, 0, 0) (10 * dv + en) = nI 1) (h : Sx D A ad Ks (lay tc ad gm dz (LL Z)) s H locs) (hl : lv_has ls 26 [(20, .int (nI 16)), (19, .int (nI pn)), (18, .int (bI true)), (17, .int (nI en)), (16, .int (nI dv)), (15, .int (nI three)), (14, .int (nI two)), (13, .int (nI one)), (12, .int (nI what)), (0, .ref (ad (0, 0, 0, 0))), (1, .ref b), (2, .int (nI at9)), (3, .ref (ad (35, 0, 0, 0))), (4, .ref (ad (37, 0, 0, 0))), (5, .ref (ad (39, 0, 0, 0))), (6, .ref (ad (43, 0, 0, 0))), (7, .ref (ad (44, 0, 0, 0))), (8, .ref (ad (41, 0, 0, 0))), (9, .ref (ad (42, 0, 0, 0))), (10, .ref (ad (40, 0, 0, 0))), (11, .ref (ad (45, 0, 0, 0)))])
    (kk : ∀ (H1 : Heap) (locs1 : List Loc) (ls1 : Array Slot), Sx D A ad Ks (lay tc ad gm dz (LL Z)) s H1 locs1 → W p l e R s mth args below meth c H1 locs1 (cells + 1) (slots + 6) Q (F0 mth 1060 ls1 [.int (bI true)])) : W p l e R s mth args below meth c H locs cells slots Q (F0 mth 796 ls []) := by
  have hok := hS.2.1
  have hn2 := hS.2.2.1
  have hm10 := hS.2.2.2
  have hN := nr_of hS.1.1
  have ht9 : t ≤ 2000 := by have := hS.1.2.2.2.2.2.2.2.2.2.1; omega
  have hBK := lb_bk (G := Z) hS.1 (fun _ _ => rfl)
  have hR9 := lb_rel0 (G := Z) hS.1.1 (fun _ _ => rfl)
  have hC := hR9.cp en dv (by omega) hd
  have hkn := ck_yes hC h34
  have how9 : LL Z (4, 0, en, 0) 0 = Z (32, 0, 0, 0) en := hR9.gl.ow en (by omega)
  obtain ⟨hx, hb, hmaxL, hown, hts⟩ := id X.1
  refine lv_iload hx hb dL_isDone_796 (lv_at hl 2 rfl) ?_
  refine b_if_eq (tgt := 841) hx hb dL_isDone_798 (by decide) (fun c => (Bool.noConfusion c)) (fun _ => ?_)
  refine lv_iload hx hb dL_isDone_801 (lv_at hl 1 rfl) ?_
  refine lv_iconst (v := nI 3) hx hb dL_isDone_803 (by decide) ?_
  refine n_icmp_ge (tgt := 841) hx hb (by omega) (by omega) dL_isDone_804 (by decide) (fun c => absurd hpn (by omega)) (fun _ => ?_)
  refine lv_iload hx hb dL_isDone_807 (lv_at hl 0 rfl) ?_
  refine lv_bipush (v := nI 16) hx hb dL_isDone_809 (by decide) ?_
  refine lv_icmp_ge (tgt := 841) hx hb dL_isDone_811 (by decide) (fun _ => ?_) (fun c => absurd c (by decide))
  refine lv_iconst (v := nI 0) hx hb dL_isDone_841 (by decide) ?_
  refine lv_istore (lv' := [(21, .int (nI 0)), (20, .int (nI 16)), (19, .int (nI pn)), (18, .int (bI true)), (17, .int (nI en)), (16, .int (nI dv)), (15, .int (nI three)), (14, .int (nI two)), (13, .int (nI one)), (12, .int (nI what)), (0, .ref (ad (0, 0, 0, 0))), (1, .ref b), (2, .int (nI at9)), (3, .ref (ad (35, 0, 0, 0))), (4, .ref (ad (37, 0, 0, 0))), (5, .ref (ad (39, 0, 0, 0))), (6, .ref (ad (43, 0, 0, 0))), (7, .ref (ad (44, 0, 0, 0))), (8, .ref (ad (41, 0, 0, 0))), (9, .ref (ad (42, 0, 0, 0))), (10, .ref (ad (40, 0, 0, 0))), (11, .ref (ad (45, 0, 0, 0)))]) hx hb dL_isDone_842 hl (by decide) rfl (fun ls hl => ?_)
  refine lv_iload hx hb dL_isDone_844 (lv_at hl 3 rfl) ?_
  refine b_if_eq (tgt := 855) hx hb dL_isDone_846 (by decide) (fun c => (Bool.noConfusion c)) (fun _ => ?_)
  refine lv_iload hx hb dL_isDone_849 (lv_at hl 2 rfl) ?_
  refine lv_iconst (v := nI 3) hx hb dL_isDone_851 (by decide) ?_
  refine n_icmp_ne (tgt := 861) hx hb (by omega) (by omega) dL_isDone_852 (by decide) (fun _ => ?_) (fun c => absurd hpn (by omega))
  refine lv_iload hx hb dL_isDone_861 (lv_at hl 1 rfl) ?_
  refine lv_bipush (v := nI 16) hx hb dL_isDone_863 (by decide) ?_
  refine lv_icmp_ne (tgt := 874) hx hb dL_isDone_865 (by decide) (fun c => absurd c (by decide)) (fun _ => ?_)
  refine lv_sipush (v := (-200)) hx hb dL_isDone_868 (by decide) ?_
  refine lv_goto (tgt := 896) hx hb dL_isDone_871 (by decide) ?_
  refine lv_istore (lv' := [(22, .int (-200)), (21, .int (nI 0)), (20, .int (nI 16)), (19, .int (nI pn)), (18, .int (bI true)), (17, .int (nI en)), (16, .int (nI dv)), (15, .int (nI three)), (14, .int (nI two)), (13, .int (nI one)), (12, .int (nI what)), (0, .ref (ad (0, 0, 0, 0))), (1, .ref b), (2, .int (nI at9)), (3, .ref (ad (35, 0, 0, 0))), (4, .ref (ad (37, 0, 0, 0))), (5, .ref (ad (39, 0, 0, 0))), (6, .ref (ad (43, 0, 0, 0))), (7, .ref (ad (44, 0, 0, 0))), (8, .ref (ad (41, 0, 0, 0))), (9, .ref (ad (42, 0, 0, 0))), (10, .ref (ad (40, 0, 0, 0))), (11, .ref (ad (45, 0, 0, 0)))]) hx hb dL_isDone_896 hl (by decide) rfl (fun ls hl => ?_)
  refine lv_iload hx hb dL_isDone_898 (lv_at hl 1 rfl) ?_
  refine lv_if_eq (tgt := 1037) hx hb dL_isDone_900 (by decide) (fun _ => ?_) (fun c => absurd c (by decide))
  refine lv_aload_n hx hb dL_isDone_1037 rfl (lv_at hl 11 rfl) ?_
  refine lv_iconst (v := nI 3) hx hb dL_isDone_1038 (by decide) ?_
  refine lv_iload hx hb dL_isDone_1039 (lv_at hl 6 rfl) ?_
  refine lv_iload hx hb dL_isDone_1041 (lv_at hl 5 rfl) ?_
  refine lv_iload hx hb dL_isDone_1043 (lv_at hl 3 rfl) ?_
  refine lv_iload hx hb dL_isDone_1045 (lv_at hl 2 rfl) ?_
  refine x_doneI X h (x_runSH (n := 6) X h (w_does_share_A (LL Z) hL (lv := 9) (by decide) (nI dv) (nI en) (nI pn) (nI 16) (x_X6_share_2 (LL Z) hst hL hG2.ok n mcs hBK dv en pn hd hk hpn hkn (nI 16) (by decide)) _) q378 q5 q376 q377 ⟨by decide, by decide, by decide +kernel⟩ rfl (Nat.le_trans (by decide) hR1) (Nat.le_trans (by decide) hR2) ⟨by omega, by omega⟩ hl.1 (Nat.le_of_ble_eq_true rfl) dL_isDone_1047 rfl) (fun H locs h => ?_)
  refine lv_iload hx hb dL_isDone_1050 (lv_at hl 0 rfl) ?_
  refine lv_icmp_ne (tgt := 1059) hx hb dL_isDone_1052 (by decide) (fun c => absurd rfl c) (fun _ => ?_)
  refine lv_iconst (v := nI 1) hx hb dL_isDone_1055 (by decide) ?_
  refine lv_goto (tgt := 1060) hx hb dL_isDone_1056 (by decide) ?_
  exact kk H locs ls h

set_option maxHeartbeats 4000000 in
set_option maxRecDepth 100000 in
theorem dt_shrS1 (X : Cx p s mth args meth c cL_isDone yL_isDone.cls 26 D tc dz A) (hR1 : 14 ≤ R.frames) (hR2 : 462 ≤ R.locals) (hcR : cells + 1 ≤ R.cells) (hsR : slots + 6 ≤ R.slots) (hL : LV gm Ks) (hst : l.stackTraces = false) (hW : LW gm Ks) (hG2 : GM2 gm) (Z : Mem) (V : Nat → BS) (acts : Nat → Act) (z n m t : Nat) (ac mcs : Nat → Nat) (cn : Nat) (hS : LWS Z gm V acts z n m t ac mcs cn) (hcn : cn < 58) (b at9 : Nat) (what one two three : Nat) (h40 : what < 40) (h60 : one < 6000) (h70 : two < 7000) (h80 : three < 8000) (dv en : Nat) (hdv : dv ≤ 6) (hen : en ≤ 2) (pn st9 : Nat) (hpn : pn < 3) (hst9 : st9 < 16) (hd : dv < 6) (hk : en < n) (h34 : Z (34, 0, 0, 0) (10 * dv + en) = nI 1) (how : ¬ Z (32, 0, 0, 0) en = nI (dv / 2)) (h : Sx D A ad Ks (lay tc ad gm dz (LL Z)) s H locs) (hl : lv_has ls 26 [(20, .int (nI st9)), (19, .int (nI pn)), (18, .int (bI true)), (17, .int (nI en)), (16, .int (nI dv)), (15, .int (nI three)), (14, .int (nI two)), (13, .int (nI one)), (12, .int (nI what)), (0, .ref (ad (0, 0, 0, 0))), (1, .ref b), (2, .int (nI at9)), (3, .ref (ad (35, 0, 0, 0))), (4, .ref (ad (37, 0, 0, 0))), (5, .ref (ad (39, 0, 0, 0))), (6, .ref (ad (43, 0, 0, 0))), (7, .ref (ad (44, 0, 0, 0))), (8, .ref (ad (41, 0, 0, 0))), (9, .ref (ad (42, 0, 0, 0))), (10, .ref (ad (40, 0, 0, 0))), (11, .ref (ad (45, 0, 0, 0)))])
    (kk : ∀ (H1 : Heap) (locs1 : List Loc) (ls1 : Array Slot), Sx D A ad Ks (lay tc ad gm dz (LL Z)) s H1 locs1 → W p l e R s mth args below meth c H1 locs1 (cells + 1) (slots + 6) Q (F0 mth 1060 ls1 [.int (bI true)])) : W p l e R s mth args below meth c H locs cells slots Q (F0 mth 796 ls []) := by
  have hok := hS.2.1
  have hn2 := hS.2.2.1
  have hm10 := hS.2.2.2
  have hN := nr_of hS.1.1
  have ht9 : t ≤ 2000 := by have := hS.1.2.2.2.2.2.2.2.2.2.1; omega
  have hBK := lb_bk (G := Z) hS.1 (fun _ _ => rfl)
  have hR9 := lb_rel0 (G := Z) hS.1.1 (fun _ _ => rfl)
  have hC := hR9.cp en dv (by omega) hd
  have hkn := ck_yes hC h34
  have how9 : LL Z (4, 0, en, 0) 0 = Z (32, 0, 0, 0) en := hR9.gl.ow en (by omega)
  have hin9 := share_in hst9
  obtain ⟨hx, hb, hmaxL, hown, hts⟩ := id X.1
  refine lv_iload hx hb dL_isDone_796 (lv_at hl 2 rfl) ?_
  refine b_if_eq (tgt := 841) hx hb dL_isDone_798 (by decide) (fun c => (Bool.noConfusion c)) (fun _ => ?_)
  refine lv_iload hx hb dL_isDone_801 (lv_at hl 1 rfl) ?_
  refine lv_iconst (v := nI 3) hx hb dL_isDone_803 (by decide) ?_
  refine n_icmp_ge (tgt := 841) hx hb (by omega) (by omega) dL_isDone_804 (by decide) (fun c => absurd hpn (by omega)) (fun _ => ?_)
  refine lv_iload hx hb dL_isDone_807 (lv_at hl 0 rfl) ?_
  refine lv_bipush (v := nI 16) hx hb dL_isDone_809 (by decide) ?_
  refine n_icmp_ge (tgt := 841) hx hb (by omega) (by omega) dL_isDone_811 (by decide) (fun c => absurd hst9 (by omega)) (fun _ => ?_)
  refine lv_aload hx hb dL_isDone_814 (lv_at hl 16 rfl) ?_
  refine lv_iconst (v := nI 4) hx hb dL_isDone_816 (by decide) ?_
  refine lv_iload hx hb dL_isDone_817 (lv_at hl 3 rfl) ?_
  refine n_imul hx hb dL_isDone_819 ?_
  refine y_ald X h (fun _ => rfl) (by decide) (hL (44, 0, 0, 0) ⟨by decide, rfl, rfl, rfl⟩) (by omega) (v := Z (32, 0, 0, 0) en) wc_o dL_isDone_820 ?_
  refine lv_iload hx hb dL_isDone_821 (lv_at hl 4 rfl) ?_
  refine lv_iconst (v := nI 2) hx hb dL_isDone_823 (by decide) ?_
  refine n_idiv hx hb (by omega) (by omega) (by omega) dL_isDone_824 ?_
  refine lv_icmp_ne (tgt := 841) hx hb dL_isDone_825 (by decide) (fun _ => ?_) (fun c => absurd c how)
  refine lv_iconst (v := nI 0) hx hb dL_isDone_841 (by decide) ?_
  refine lv_istore (lv' := [(21, .int (nI 0)), (20, .int (nI st9)), (19, .int (nI pn)), (18, .int (bI true)), (17, .int (nI en)), (16, .int (nI dv)), (15, .int (nI three)), (14, .int (nI two)), (13, .int (nI one)), (12, .int (nI what)), (0, .ref (ad (0, 0, 0, 0))), (1, .ref b), (2, .int (nI at9)), (3, .ref (ad (35, 0, 0, 0))), (4, .ref (ad (37, 0, 0, 0))), (5, .ref (ad (39, 0, 0, 0))), (6, .ref (ad (43, 0, 0, 0))), (7, .ref (ad (44, 0, 0, 0))), (8, .ref (ad (41, 0, 0, 0))), (9, .ref (ad (42, 0, 0, 0))), (10, .ref (ad (40, 0, 0, 0))), (11, .ref (ad (45, 0, 0, 0)))]) hx hb dL_isDone_842 hl (by decide) rfl (fun ls hl => ?_)
  refine lv_iload hx hb dL_isDone_844 (lv_at hl 3 rfl) ?_
  refine b_if_eq (tgt := 855) hx hb dL_isDone_846 (by decide) (fun c => (Bool.noConfusion c)) (fun _ => ?_)
  refine lv_iload hx hb dL_isDone_849 (lv_at hl 2 rfl) ?_
  refine lv_iconst (v := nI 3) hx hb dL_isDone_851 (by decide) ?_
  refine n_icmp_ne (tgt := 861) hx hb (by omega) (by omega) dL_isDone_852 (by decide) (fun _ => ?_) (fun c => absurd hpn (by omega))
  refine lv_iload hx hb dL_isDone_861 (lv_at hl 1 rfl) ?_
  refine lv_bipush (v := nI 16) hx hb dL_isDone_863 (by decide) ?_
  refine n_icmp_ne (tgt := 874) hx hb (by omega) (by omega) dL_isDone_865 (by decide) (fun _ => ?_) (fun c => absurd hst9 (by omega))
  refine lv_iload hx hb dL_isDone_874 (lv_at hl 0 rfl) ?_
  refine lv_if_eq (tgt := 894) hx hb dL_isDone_876 (by decide) (fun _ => ?_) (fun c => absurd c (by decide))
  refine lv_bipush (v := (-100)) hx hb dL_isDone_894 (by decide) ?_
  refine lv_istore (lv' := [(22, .int (-100)), (21, .int (nI 0)), (20, .int (nI st9)), (19, .int (nI pn)), (18, .int (bI true)), (17, .int (nI en)), (16, .int (nI dv)), (15, .int (nI three)), (14, .int (nI two)), (13, .int (nI one)), (12, .int (nI what)), (0, .ref (ad (0, 0, 0, 0))), (1, .ref b), (2, .int (nI at9)), (3, .ref (ad (35, 0, 0, 0))), (4, .ref (ad (37, 0, 0, 0))), (5, .ref (ad (39, 0, 0, 0))), (6, .ref (ad (43, 0, 0, 0))), (7, .ref (ad (44, 0, 0, 0))), (8, .ref (ad (41, 0, 0, 0))), (9, .ref (ad (42, 0, 0, 0))), (10, .ref (ad (40, 0, 0, 0))), (11, .ref (ad (45, 0, 0, 0)))]) hx hb dL_isDone_896 hl (by decide) rfl (fun ls hl => ?_)
  refine lv_iload hx hb dL_isDone_898 (lv_at hl 1 rfl) ?_
  refine lv_if_eq (tgt := 1037) hx hb dL_isDone_900 (by decide) (fun _ => ?_) (fun c => absurd c (by decide))
  refine lv_aload_n hx hb dL_isDone_1037 rfl (lv_at hl 11 rfl) ?_
  refine lv_iconst (v := nI 3) hx hb dL_isDone_1038 (by decide) ?_
  refine lv_iload hx hb dL_isDone_1039 (lv_at hl 6 rfl) ?_
  refine lv_iload hx hb dL_isDone_1041 (lv_at hl 5 rfl) ?_
  refine lv_iload hx hb dL_isDone_1043 (lv_at hl 3 rfl) ?_
  refine lv_iload hx hb dL_isDone_1045 (lv_at hl 2 rfl) ?_
  refine x_doneI X h (x_runSH (n := 6) X h (w_does_share_S (LL Z) hL (lv := 9) (by decide) (nI dv) (nI en) (nI pn) (nI st9) (x_X6_share_3a (LL Z) hst hL hG2.ok n mcs hBK dv en pn hd hk hpn hkn (nI st9) hin9 (by rw [how9]; exact how)) _) q378 q5 q376 q377 ⟨by decide, by decide, by decide +kernel⟩ rfl (Nat.le_trans (by decide) hR1) (Nat.le_trans (by decide) hR2) ⟨by omega, by omega⟩ hl.1 (Nat.le_of_ble_eq_true rfl) dL_isDone_1047 rfl) (fun H locs h => ?_)
  refine lv_iload hx hb dL_isDone_1050 (lv_at hl 0 rfl) ?_
  refine lv_icmp_ne (tgt := 1059) hx hb dL_isDone_1052 (by decide) (fun c => absurd rfl c) (fun _ => ?_)
  refine lv_iconst (v := nI 1) hx hb dL_isDone_1055 (by decide) ?_
  refine lv_goto (tgt := 1060) hx hb dL_isDone_1056 (by decide) ?_
  exact kk H locs ls h

set_option maxHeartbeats 4000000 in
set_option maxRecDepth 100000 in
theorem dt_shrS2 (X : Cx p s mth args meth c cL_isDone yL_isDone.cls 26 D tc dz A) (hR1 : 14 ≤ R.frames) (hR2 : 462 ≤ R.locals) (hcR : cells + 1 ≤ R.cells) (hsR : slots + 6 ≤ R.slots) (hL : LV gm Ks) (hst : l.stackTraces = false) (hW : LW gm Ks) (hG2 : GM2 gm) (Z : Mem) (V : Nat → BS) (acts : Nat → Act) (z n m t : Nat) (ac mcs : Nat → Nat) (cn : Nat) (hS : LWS Z gm V acts z n m t ac mcs cn) (hcn : cn < 58) (b at9 : Nat) (what one two three : Nat) (h40 : what < 40) (h60 : one < 6000) (h70 : two < 7000) (h80 : three < 8000) (dv en : Nat) (hdv : dv ≤ 6) (hen : en ≤ 2) (pn st9 : Nat) (hpn : pn < 3) (hst9 : st9 < 16) (hd : dv < 6) (hk : en < n) (h34 : Z (34, 0, 0, 0) (10 * dv + en) = nI 1) (how : Z (32, 0, 0, 0) en = nI (dv / 2)) (hpd : pn = dv / 2) (h : Sx D A ad Ks (lay tc ad gm dz (LL Z)) s H locs) (hl : lv_has ls 26 [(20, .int (nI st9)), (19, .int (nI pn)), (18, .int (bI true)), (17, .int (nI en)), (16, .int (nI dv)), (15, .int (nI three)), (14, .int (nI two)), (13, .int (nI one)), (12, .int (nI what)), (0, .ref (ad (0, 0, 0, 0))), (1, .ref b), (2, .int (nI at9)), (3, .ref (ad (35, 0, 0, 0))), (4, .ref (ad (37, 0, 0, 0))), (5, .ref (ad (39, 0, 0, 0))), (6, .ref (ad (43, 0, 0, 0))), (7, .ref (ad (44, 0, 0, 0))), (8, .ref (ad (41, 0, 0, 0))), (9, .ref (ad (42, 0, 0, 0))), (10, .ref (ad (40, 0, 0, 0))), (11, .ref (ad (45, 0, 0, 0)))])
    (kk : ∀ (H1 : Heap) (locs1 : List Loc) (ls1 : Array Slot), Sx D A ad Ks (lay tc ad gm dz (LL Z)) s H1 locs1 → W p l e R s mth args below meth c H1 locs1 (cells + 1) (slots + 6) Q (F0 mth 1060 ls1 [.int (bI true)])) : W p l e R s mth args below meth c H locs cells slots Q (F0 mth 796 ls []) := by
  have hok := hS.2.1
  have hn2 := hS.2.2.1
  have hm10 := hS.2.2.2
  have hN := nr_of hS.1.1
  have ht9 : t ≤ 2000 := by have := hS.1.2.2.2.2.2.2.2.2.2.1; omega
  have hBK := lb_bk (G := Z) hS.1 (fun _ _ => rfl)
  have hR9 := lb_rel0 (G := Z) hS.1.1 (fun _ _ => rfl)
  have hC := hR9.cp en dv (by omega) hd
  have hkn := ck_yes hC h34
  have how9 : LL Z (4, 0, en, 0) 0 = Z (32, 0, 0, 0) en := hR9.gl.ow en (by omega)
  have hin9 := share_in hst9
  obtain ⟨hx, hb, hmaxL, hown, hts⟩ := id X.1
  refine lv_iload hx hb dL_isDone_796 (lv_at hl 2 rfl) ?_
  refine b_if_eq (tgt := 841) hx hb dL_isDone_798 (by decide) (fun c => (Bool.noConfusion c)) (fun _ => ?_)
  refine lv_iload hx hb dL_isDone_801 (lv_at hl 1 rfl) ?_
  refine lv_iconst (v := nI 3) hx hb dL_isDone_803 (by decide) ?_
  refine n_icmp_ge (tgt := 841) hx hb (by omega) (by omega) dL_isDone_804 (by decide) (fun c => absurd hpn (by omega)) (fun _ => ?_)
  refine lv_iload hx hb dL_isDone_807 (lv_at hl 0 rfl) ?_
  refine lv_bipush (v := nI 16) hx hb dL_isDone_809 (by decide) ?_
  refine n_icmp_ge (tgt := 841) hx hb (by omega) (by omega) dL_isDone_811 (by decide) (fun c => absurd hst9 (by omega)) (fun _ => ?_)
  refine lv_aload hx hb dL_isDone_814 (lv_at hl 16 rfl) ?_
  refine lv_iconst (v := nI 4) hx hb dL_isDone_816 (by decide) ?_
  refine lv_iload hx hb dL_isDone_817 (lv_at hl 3 rfl) ?_
  refine n_imul hx hb dL_isDone_819 ?_
  refine y_ald X h (fun _ => rfl) (by decide) (hL (44, 0, 0, 0) ⟨by decide, rfl, rfl, rfl⟩) (by omega) (v := Z (32, 0, 0, 0) en) wc_o dL_isDone_820 ?_
  refine lv_iload hx hb dL_isDone_821 (lv_at hl 4 rfl) ?_
  refine lv_iconst (v := nI 2) hx hb dL_isDone_823 (by decide) ?_
  refine n_idiv hx hb (by omega) (by omega) (by omega) dL_isDone_824 ?_
  refine lv_icmp_ne (tgt := 841) hx hb dL_isDone_825 (by decide) (fun c => absurd how c) (fun _ => ?_)
  refine lv_iload hx hb dL_isDone_828 (lv_at hl 1 rfl) ?_
  refine lv_iload hx hb dL_isDone_830 (lv_at hl 4 rfl) ?_
  refine lv_iconst (v := nI 2) hx hb dL_isDone_832 (by decide) ?_
  refine n_idiv hx hb (by omega) (by omega) (by omega) dL_isDone_833 ?_
  refine n_icmp_eq (tgt := 841) hx hb (by omega) (by omega) dL_isDone_834 (by decide) (fun _ => ?_) (fun c => absurd hpd c)
  refine lv_iconst (v := nI 0) hx hb dL_isDone_841 (by decide) ?_
  refine lv_istore (lv' := [(21, .int (nI 0)), (20, .int (nI st9)), (19, .int (nI pn)), (18, .int (bI true)), (17, .int (nI en)), (16, .int (nI dv)), (15, .int (nI three)), (14, .int (nI two)), (13, .int (nI one)), (12, .int (nI what)), (0, .ref (ad (0, 0, 0, 0))), (1, .ref b), (2, .int (nI at9)), (3, .ref (ad (35, 0, 0, 0))), (4, .ref (ad (37, 0, 0, 0))), (5, .ref (ad (39, 0, 0, 0))), (6, .ref (ad (43, 0, 0, 0))), (7, .ref (ad (44, 0, 0, 0))), (8, .ref (ad (41, 0, 0, 0))), (9, .ref (ad (42, 0, 0, 0))), (10, .ref (ad (40, 0, 0, 0))), (11, .ref (ad (45, 0, 0, 0)))]) hx hb dL_isDone_842 hl (by decide) rfl (fun ls hl => ?_)
  refine lv_iload hx hb dL_isDone_844 (lv_at hl 3 rfl) ?_
  refine b_if_eq (tgt := 855) hx hb dL_isDone_846 (by decide) (fun c => (Bool.noConfusion c)) (fun _ => ?_)
  refine lv_iload hx hb dL_isDone_849 (lv_at hl 2 rfl) ?_
  refine lv_iconst (v := nI 3) hx hb dL_isDone_851 (by decide) ?_
  refine n_icmp_ne (tgt := 861) hx hb (by omega) (by omega) dL_isDone_852 (by decide) (fun _ => ?_) (fun c => absurd hpn (by omega))
  refine lv_iload hx hb dL_isDone_861 (lv_at hl 1 rfl) ?_
  refine lv_bipush (v := nI 16) hx hb dL_isDone_863 (by decide) ?_
  refine n_icmp_ne (tgt := 874) hx hb (by omega) (by omega) dL_isDone_865 (by decide) (fun _ => ?_) (fun c => absurd hst9 (by omega))
  refine lv_iload hx hb dL_isDone_874 (lv_at hl 0 rfl) ?_
  refine lv_if_eq (tgt := 894) hx hb dL_isDone_876 (by decide) (fun _ => ?_) (fun c => absurd c (by decide))
  refine lv_bipush (v := (-100)) hx hb dL_isDone_894 (by decide) ?_
  refine lv_istore (lv' := [(22, .int (-100)), (21, .int (nI 0)), (20, .int (nI st9)), (19, .int (nI pn)), (18, .int (bI true)), (17, .int (nI en)), (16, .int (nI dv)), (15, .int (nI three)), (14, .int (nI two)), (13, .int (nI one)), (12, .int (nI what)), (0, .ref (ad (0, 0, 0, 0))), (1, .ref b), (2, .int (nI at9)), (3, .ref (ad (35, 0, 0, 0))), (4, .ref (ad (37, 0, 0, 0))), (5, .ref (ad (39, 0, 0, 0))), (6, .ref (ad (43, 0, 0, 0))), (7, .ref (ad (44, 0, 0, 0))), (8, .ref (ad (41, 0, 0, 0))), (9, .ref (ad (42, 0, 0, 0))), (10, .ref (ad (40, 0, 0, 0))), (11, .ref (ad (45, 0, 0, 0)))]) hx hb dL_isDone_896 hl (by decide) rfl (fun ls hl => ?_)
  refine lv_iload hx hb dL_isDone_898 (lv_at hl 1 rfl) ?_
  refine lv_if_eq (tgt := 1037) hx hb dL_isDone_900 (by decide) (fun _ => ?_) (fun c => absurd c (by decide))
  refine lv_aload_n hx hb dL_isDone_1037 rfl (lv_at hl 11 rfl) ?_
  refine lv_iconst (v := nI 3) hx hb dL_isDone_1038 (by decide) ?_
  refine lv_iload hx hb dL_isDone_1039 (lv_at hl 6 rfl) ?_
  refine lv_iload hx hb dL_isDone_1041 (lv_at hl 5 rfl) ?_
  refine lv_iload hx hb dL_isDone_1043 (lv_at hl 3 rfl) ?_
  refine lv_iload hx hb dL_isDone_1045 (lv_at hl 2 rfl) ?_
  refine x_doneI X h (x_runSH (n := 6) X h (w_does_share_S (LL Z) hL (lv := 9) (by decide) (nI dv) (nI en) (nI pn) (nI st9) (x_X6_share_3b (LL Z) hst hL hG2.ok n mcs hBK dv en pn hd hk hpn hkn (nI st9) hin9 (by rw [how9]; exact how) (by rw [how9, how, hpd])) _) q378 q5 q376 q377 ⟨by decide, by decide, by decide +kernel⟩ rfl (Nat.le_trans (by decide) hR1) (Nat.le_trans (by decide) hR2) ⟨by omega, by omega⟩ hl.1 (Nat.le_of_ble_eq_true rfl) dL_isDone_1047 rfl) (fun H locs h => ?_)
  refine lv_iload hx hb dL_isDone_1050 (lv_at hl 0 rfl) ?_
  refine lv_icmp_ne (tgt := 1059) hx hb dL_isDone_1052 (by decide) (fun c => absurd rfl c) (fun _ => ?_)
  refine lv_iconst (v := nI 1) hx hb dL_isDone_1055 (by decide) ?_
  refine lv_goto (tgt := 1060) hx hb dL_isDone_1056 (by decide) ?_
  exact kk H locs ls h

set_option maxHeartbeats 4000000 in
set_option maxRecDepth 100000 in
theorem dn_m (X : Cx p s mth args meth c cL_isDone yL_isDone.cls 26 D tc dz A) (hR1 : 14 ≤ R.frames) (hR2 : 462 ≤ R.locals) (hcR : cells + 0 ≤ R.cells) (hsR : slots + 0 ≤ R.slots) (hL : LV gm Ks) (hst : l.stackTraces = false) (hW : LW gm Ks) (hG2 : GM2 gm) (Z : Mem) (V : Nat → BS) (acts : Nat → Act) (z n m t : Nat) (ac mcs : Nat → Nat) (cn : Nat) (hS : LWS Z gm V acts z n m t ac mcs cn) (hcn : cn < 58) (b at9 : Nat) (what one two three : Nat) (h40 : what < 40) (h60 : one < 6000) (h70 : two < 7000) (h80 : three < 8000) (dv en : Nat) (hdv : dv ≤ 6) (hen : en ≤ 2) (kn : Bool) (hw : what < 37) (h : Sx D A ad Ks (lay tc ad gm dz (LL Z)) s H locs) (hl : lv_has ls 26 [(18, .int (bI kn)), (17, .int (nI en)), (16, .int (nI dv)), (15, .int (nI three)), (14, .int (nI two)), (13, .int (nI one)), (12, .int (nI what)), (0, .ref (ad (0, 0, 0, 0))), (1, .ref b), (2, .int (nI at9)), (3, .ref (ad (35, 0, 0, 0))), (4, .ref (ad (37, 0, 0, 0))), (5, .ref (ad (39, 0, 0, 0))), (6, .ref (ad (43, 0, 0, 0))), (7, .ref (ad (44, 0, 0, 0))), (8, .ref (ad (41, 0, 0, 0))), (9, .ref (ad (42, 0, 0, 0))), (10, .ref (ad (40, 0, 0, 0))), (11, .ref (ad (45, 0, 0, 0)))])
    (kk : ∀ (ov : Nat), ov ≤ 6 → ∀ (H1 : Heap) (locs1 : List Loc) (ls1 : Array Slot), Sx D A ad Ks (lay tc ad gm dz (LL Z)) s H1 locs1 → ls1.size = 26 → W p l e R s mth args below meth c H1 locs1 cells slots Q (F0 mth 1108 ls1 [.int (nI ov), .int (nI dv), .ref (ad (45, 0, 0, 0)), .ref (ad (40, 0, 0, 0)), .ref (ad (42, 0, 0, 0)), .ref (ad (41, 0, 0, 0)), .ref (ad (44, 0, 0, 0)), .ref (ad (43, 0, 0, 0)), .ref (ad (39, 0, 0, 0)), .ref (ad (37, 0, 0, 0)), .ref (ad (35, 0, 0, 0)), .ref (ad (0, 0, 0, 0))])) : W p l e R s mth args below meth c H locs cells slots Q (F0 mth 1061 ls []) := by
  have hok := hS.2.1
  have hn2 := hS.2.2.1
  have hm10 := hS.2.2.2
  have hN := nr_of hS.1.1
  have ht9 : t ≤ 2000 := by have := hS.1.2.2.2.2.2.2.2.2.2.1; omega
  have hBK := lb_bk (G := Z) hS.1 (fun _ _ => rfl)
  have hR9 := lb_rel0 (G := Z) hS.1.1 (fun _ _ => rfl)
  obtain ⟨hx, hb, hmaxL, hown, hts⟩ := id X.1
  refine lv_iload hx hb dL_isDone_1061 (lv_at hl 6 rfl) ?_
  refine lv_bipush (v := nI 37) hx hb dL_isDone_1063 (by decide) ?_
  refine n_icmp_ge (tgt := 1112) hx hb (by omega) (by omega) dL_isDone_1065 (by decide) (fun c => absurd hw (by omega)) (fun _ => ?_)
  refine lv_aload_n hx hb dL_isDone_1068 rfl (lv_at hl 7 rfl) ?_
  refine lv_aload_n hx hb dL_isDone_1069 rfl (lv_at hl 10 rfl) ?_
  refine lv_aload hx hb dL_isDone_1070 (lv_at hl 11 rfl) ?_
  refine lv_aload hx hb dL_isDone_1072 (lv_at hl 12 rfl) ?_
  refine lv_aload hx hb dL_isDone_1074 (lv_at hl 13 rfl) ?_
  refine lv_aload hx hb dL_isDone_1076 (lv_at hl 14 rfl) ?_
  refine lv_aload hx hb dL_isDone_1078 (lv_at hl 15 rfl) ?_
  refine lv_aload hx hb dL_isDone_1080 (lv_at hl 16 rfl) ?_
  refine lv_aload hx hb dL_isDone_1082 (lv_at hl 17 rfl) ?_
  refine lv_aload hx hb dL_isDone_1084 (lv_at hl 18 rfl) ?_
  refine lv_iload hx hb dL_isDone_1086 (lv_at hl 2 rfl) ?_
  refine lv_iload hx hb dL_isDone_1088 (lv_at hl 4 rfl) ?_
  refine lv_bipush (v := nI 30) hx hb dL_isDone_1090 (by decide) ?_
  refine n_irem hx hb (by omega) (by omega) (by omega) dL_isDone_1092 ?_
  refine n_if_ne (tgt := 1101) hx hb (by omega) dL_isDone_1093 (by decide) (fun c_1093 => ?_) (fun c_1093 => ?_)
  · skip
    refine lv_iload hx hb dL_isDone_1101 (lv_at hl 4 rfl) ?_
    refine lv_iconst (v := nI 2) hx hb dL_isDone_1103 (by decide) ?_
    refine n_idiv hx hb (by omega) (by omega) (by omega) dL_isDone_1104 ?_
    refine lv_bipush (v := nI 6) hx hb dL_isDone_1105 (by decide) ?_
    refine n_irem hx hb (by omega) (by omega) (by omega) dL_isDone_1107 ?_
    exact kk ((two / 2) % 6) (by omega) H locs ls h hl.1
  · skip
    refine lv_bipush (v := nI 6) hx hb dL_isDone_1096 (by decide) ?_
    refine lv_goto (tgt := 1108) hx hb dL_isDone_1098 (by decide) ?_
    exact kk (6) (by omega) H locs ls h hl.1

set_option maxHeartbeats 4000000 in
set_option maxRecDepth 100000 in
theorem dn_p (X : Cx p s mth args meth c cL_isDone yL_isDone.cls 26 D tc dz A) (hR1 : 14 ≤ R.frames) (hR2 : 462 ≤ R.locals) (hcR : cells + 0 ≤ R.cells) (hsR : slots + 0 ≤ R.slots) (hL : LV gm Ks) (hst : l.stackTraces = false) (hW : LW gm Ks) (hG2 : GM2 gm) (Z : Mem) (V : Nat → BS) (acts : Nat → Act) (z n m t : Nat) (ac mcs : Nat → Nat) (cn : Nat) (hS : LWS Z gm V acts z n m t ac mcs cn) (hcn : cn < 58) (b at9 : Nat) (what one two three : Nat) (h40 : what < 40) (h60 : one < 6000) (h70 : two < 7000) (h80 : three < 8000) (dv en : Nat) (hdv : dv ≤ 6) (hen : en ≤ 2) (kn : Bool) (h : Sx D A ad Ks (lay tc ad gm dz (LL Z)) s H locs) (hl : lv_has ls 26 [(18, .int (bI kn)), (17, .int (nI en)), (16, .int (nI dv)), (15, .int (nI three)), (14, .int (nI two)), (13, .int (nI one)), (12, .int (nI what)), (0, .ref (ad (0, 0, 0, 0))), (1, .ref b), (2, .int (nI at9)), (3, .ref (ad (35, 0, 0, 0))), (4, .ref (ad (37, 0, 0, 0))), (5, .ref (ad (39, 0, 0, 0))), (6, .ref (ad (43, 0, 0, 0))), (7, .ref (ad (44, 0, 0, 0))), (8, .ref (ad (41, 0, 0, 0))), (9, .ref (ad (42, 0, 0, 0))), (10, .ref (ad (40, 0, 0, 0))), (11, .ref (ad (45, 0, 0, 0)))])
    (kk : ∀ (xv : Nat), (xv = 25 ∨ (0 < xv ∧ xv ≤ 15)) → ∀ (H1 : Heap) (locs1 : List Loc) (ls1 : Array Slot), Sx D A ad Ks (lay tc ad gm dz (LL Z)) s H1 locs1 → ls1.size = 26 → W p l e R s mth args below meth c H1 locs1 cells slots Q (F0 mth 1148 ls1 [.int (nI xv), .ref (ad (45, 0, 0, 0)), .ref (ad (40, 0, 0, 0)), .ref (ad (42, 0, 0, 0)), .ref (ad (41, 0, 0, 0)), .ref (ad (43, 0, 0, 0)), .ref (ad (39, 0, 0, 0)), .ref (ad (37, 0, 0, 0)), .ref (ad (35, 0, 0, 0)), .ref (ad (0, 0, 0, 0))])) : W p l e R s mth args below meth c H locs cells slots Q (F0 mth 1112 ls []) := by
  have hok := hS.2.1
  have hn2 := hS.2.2.1
  have hm10 := hS.2.2.2
  have hN := nr_of hS.1.1
  have ht9 : t ≤ 2000 := by have := hS.1.2.2.2.2.2.2.2.2.2.1; omega
  have hBK := lb_bk (G := Z) hS.1 (fun _ _ => rfl)
  have hR9 := lb_rel0 (G := Z) hS.1.1 (fun _ _ => rfl)
  obtain ⟨hx, hb, hmaxL, hown, hts⟩ := id X.1
  refine lv_aload_n hx hb dL_isDone_1112 rfl (lv_at hl 7 rfl) ?_
  refine lv_aload_n hx hb dL_isDone_1113 rfl (lv_at hl 10 rfl) ?_
  refine lv_aload hx hb dL_isDone_1114 (lv_at hl 11 rfl) ?_
  refine lv_aload hx hb dL_isDone_1116 (lv_at hl 12 rfl) ?_
  refine lv_aload hx hb dL_isDone_1118 (lv_at hl 13 rfl) ?_
  refine lv_aload hx hb dL_isDone_1120 (lv_at hl 15 rfl) ?_
  refine lv_aload hx hb dL_isDone_1122 (lv_at hl 16 rfl) ?_
  refine lv_aload hx hb dL_isDone_1124 (lv_at hl 17 rfl) ?_
  refine lv_aload hx hb dL_isDone_1126 (lv_at hl 18 rfl) ?_
  refine lv_iload hx hb dL_isDone_1128 (lv_at hl 5 rfl) ?_
  refine lv_bipush (v := nI 20) hx hb dL_isDone_1130 (by decide) ?_
  refine n_irem hx hb (by omega) (by omega) (by omega) dL_isDone_1132 ?_
  refine n_if_ne (tgt := 1141) hx hb (by omega) dL_isDone_1133 (by decide) (fun c_1133 => ?_) (fun c_1133 => ?_)
  · skip
    refine lv_iconst (v := nI 1) hx hb dL_isDone_1141 (by decide) ?_
    refine lv_iload hx hb dL_isDone_1142 (lv_at hl 3 rfl) ?_
    refine lv_bipush (v := nI 15) hx hb dL_isDone_1144 (by decide) ?_
    refine n_irem hx hb (by omega) (by omega) (by omega) dL_isDone_1146 ?_
    refine n_iadd hx hb dL_isDone_1147 ?_
    exact kk (1 + (three % 15)) (by omega) H locs ls h hl.1
  · skip
    refine lv_bipush (v := nI 25) hx hb dL_isDone_1136 (by decide) ?_
    refine lv_goto (tgt := 1148) hx hb dL_isDone_1138 (by decide) ?_
    exact kk (25) (by omega) H locs ls h hl.1
end SEGS
