/-! a device looked at: the stretches -/
theorem n_gtp {a : Nat} (h : 0 < a) (h2 : a < 2 ^ 31) : (0 : Int32) < nI a := (nI_ltI (a := 0) (by decide) h2).mpr h
theorem mst_0 {Z : Mem} {d k m : Nat} (h : mstR Z d k m = 0) : Z (34, 0, 0, 0) (10 * d + k) = 0 := by
  by_cases q : Z (34, 0, 0, 0) (10 * d + k) = 0
  · exact q
  · unfold mstR at h
    rw [if_neg q] at h
    split at h
    · cases h
    · split at h <;> cases h
theorem mst_n {Z : Mem} {d k m : Nat} (h : 0 < mstR Z d k m) : ¬ Z (34, 0, 0, 0) (10 * d + k) = 0 := fun q => by
  unfold mstR at h
  rw [if_pos q] at h
  omega
theorem mst_kn {I Z : Mem} {ac : Nat → Nat} {L : Nat → Nat → Int32 → Int32} {d k m : Nat} (hC : Cp I Z L ac k d) (h : 0 < mstR Z d k m) : nz (I (9, 0, k, d) 0) = true := by
  rw [hC.kn]
  unfold nz
  exact if_neg (mst_n h)
theorem mst_ck {I Z : Mem} {ac : Nat → Nat} {L : Nat → Nat → Int32 → Int32} {d k m n : Nat} (hC : Cp I Z L ac k d) (h : mstR Z d k m = 0) (hn10 : n ≤ 10) (hd : d < 6) (hk : k < n) : ckn I 0 n (nI d) (nI k) = false := by
  rw [ckn_nI hn10 hd hk, hC.kn, mst_0 h]
  rfl
theorem cix_out {I : Mem} {n d k f many : Nat} (h : cvF (I (10, 0, k, d)) f = many) (hd : d < 6) (hk : k < 10) (hf : f < 4) : (ckn I 0 n (nI d) (nI k) && (isFld (nI f) && cix I 0 (nI d) (nI k) (nI f) (nI many))) = false := by
  have h6 := cvF_le (I (10, 0, k, d)) f
  unfold cix
  rw [nI_clamp (by omega), nI_clamp (by omega), nI_clamp (by omega), decide_eq_false (fun q => absurd ((nI_ltI (by omega) (by omega)).mp q) (by omega)), Bool.and_false, Bool.and_false, Bool.and_false]
theorem cix_neg {I : Mem} {n d k f : Nat} : (ckn I 0 n (nI d) (nI k) && (isFld (nI f) && cix I 0 (nI d) (nI k) (nI f) (-1))) = false := by
  unfold cix
  rw [decide_eq_true (show (-1 : Int32) < 0 by decide), Bool.not_true, Bool.false_and, Bool.and_false, Bool.and_false]
theorem las_nn {Z : Mem} (hT : TR Z) (d k : Nat) : ∀ j, 0 ≤ (lasI Z d k j).toInt
  | 0 => by rw [lasI, i_zero]; omega
  | j + 1 => by
    have ih := las_nn hT d k j
    have h1 := (hT (6 * j + d)).1
    rw [lasI]
    split
    · unfold imax; split <;> omega
    · exact ih
theorem las_le {Z : Mem} (hT : TR Z) {d k j : Nat} (h : snc Z d k j ≤ lasI Z d k j) : lasI Z d k j = lasI Z d k (j + 1) := by
  rw [lasI]
  by_cases q : (mo Z k j && kmk Z d j) = true
  · rw [if_pos q]
    rw [Bool.and_eq_true] at q
    have e : snc Z d k j = Z (42, 0, 0, 0) (6 * j + d) := by unfold snc; rw [q.1, if_pos rfl]
    rw [e] at h
    unfold imax
    rw [if_neg (le_not_lt h)]
  · rw [if_neg q]
theorem las_gt {Z : Mem} (hT : TR Z) {d k j : Nat} (h : ¬ snc Z d k j ≤ lasI Z d k j) : snc Z d k j = lasI Z d k (j + 1) := by
  have h1 := not_le_lt h
  have h2 := las_nn hT d k j
  have h3 : ¬ snc Z d k j = 0 := fun q => by
    rw [q, Int32.lt_iff_toInt_lt, i_zero] at h1
    omega
  have q := snc_ne0 hT h3
  rw [lasI, if_pos q]
  rw [Bool.and_eq_true] at q
  have e : snc Z d k j = Z (42, 0, 0, 0) (6 * j + d) := by unfold snc; rw [q.1, if_pos rfl]
  unfold imax
  rw [← e, if_pos h1]
theorem mmk_0 {Z : Mem} {d k m : Nat} (h : agN Z d k m = 0) : mmkR Z d k m = nI 0 := by
  unfold mmkR
  rw [if_pos h]
/-- for how long, at most 99 -/
def dueI (Z : Mem) (d k m : Nat) : Int32 := if Z (30, 0, 0, 0) 0 + nI 1 - lasI Z d k m ≤ nI 99 then Z (30, 0, 0, 0) 0 + nI 1 - lasI Z d k m else nI 99
theorem due_s {Z : Mem} {d k m t : Nat} (ht : Z (30, 0, 0, 0) 0 = nI t) (h2 : nI (t + 1) - lasI Z d k m ≤ nI 99) : nI (t + 1) - lasI Z d k m = dueI Z d k m := by
  unfold dueI
  rw [ht, nI_add, if_pos h2]
theorem due_l {Z : Mem} {d k m t : Nat} (ht : Z (30, 0, 0, 0) 0 = nI t) (h2 : ¬ nI (t + 1) - lasI Z d k m ≤ nI 99) : nI 99 = dueI Z d k m := by
  unfold dueI
  rw [ht, nI_add, if_neg h2]
theorem mmk_d {Z : Mem} {d k m : Nat} (h : ¬ agN Z d k m = 0) : mmkR Z d k m = nI (100 * agN Z d k m) + dueI Z d k m := by
  unfold mmkR dueI
  rw [if_neg h]
  split
  · rfl
  · rw [nI_add]
section SEGS
variable {p : Program} {l : Launch} {e : Env} {R : Room} {s : State} {mth : MethodId} {args : Array Value} {below : List Frame} {meth : Method} {c : Code} {H : Heap} {locs : List Loc} {cells slots : Nat} {Q : State → Prop}
variable {D : va_G} {tc : TC} {dz : Nat} {A : Nat → Prop} {ad : KN → Nat} {Ks : List KN} {gm : GM} {ls : Array Slot}
set_option maxHeartbeats 4000000 in
set_option maxRecDepth 100000 in
theorem dv_1z (X : Cx p s mth args meth c cL_isDevice yL_isDevice.cls 21 D tc dz A) (hR1 : 13 ≤ R.frames) (hR2 : 410 ≤ R.locals) (hcR : cells + 4 ≤ R.cells) (hsR : slots + 24 ≤ R.slots) (hL : LV gm Ks) (hst : l.stackTraces = false) (hW : LW gm Ks) (hG2 : GM2 gm) (Z : Mem) (V : Nat → BS) (acts : Nat → Act) (z n m t : Nat) (ac mcs : Nat → Nat) (cn : Nat) (hS : LWS Z gm V acts z n m t ac mcs cn) (hcn : cn < 59) (d k fd cl : Nat) (hd : d < 6) (hk : k < n) (h0 : mstR Z d k m = 0) (h : Sx D A ad Ks (lay tc ad gm dz (LL Z)) s H locs) (hl : lv_has ls 21 [(13, .int (nI k)), (12, .int (bI true)), (11, .int (nI cl)), (0, .ref (ad (0, 0, 0, 0))), (1, .ref (ad (35, 0, 0, 0))), (2, .ref (ad (37, 0, 0, 0))), (3, .ref (ad (43, 0, 0, 0))), (4, .ref (ad (44, 0, 0, 0))), (5, .ref (ad (41, 0, 0, 0))), (6, .ref (ad (42, 0, 0, 0))), (7, .ref (ad (40, 0, 0, 0))), (8, .ref (ad (45, 0, 0, 0))), (9, .int (nI d)), (10, .int (nI fd))])
    (kk : ∀ (H1 : Heap) (locs1 : List Loc) (ls1 : Array Slot), Sx D A ad Ks (lay tc ad gm dz (LL Z)) s H1 locs1 → lv_has ls1 21 [(14, .int (nI 0)), (13, .int (nI k)), (12, .int (bI true)), (11, .int (nI cl)), (0, .ref (ad (0, 0, 0, 0))), (1, .ref (ad (35, 0, 0, 0))), (2, .ref (ad (37, 0, 0, 0))), (3, .ref (ad (43, 0, 0, 0))), (4, .ref (ad (44, 0, 0, 0))), (5, .ref (ad (41, 0, 0, 0))), (6, .ref (ad (42, 0, 0, 0))), (7, .ref (ad (40, 0, 0, 0))), (8, .ref (ad (45, 0, 0, 0))), (9, .int (nI d)), (10, .int (nI fd))] → W p l e R s mth args below meth c H1 locs1 (cells + 4) (slots + 24) Q (F0 mth 135 ls1 [])) : W p l e R s mth args below meth c H locs cells slots Q (F0 mth 23 ls []) := by
  have hok := hS.2.1
  have hn2 := hS.2.2.1
  have hm10 := hS.2.2.2
  have hN := nr_of hS.1.1
  have ht9 : t ≤ 2000 := by have := hS.1.2.2.2.2.2.2.2.2.2.1; omega
  have hBK := lb_bk (G := Z) hS.1 (fun _ _ => rfl)
  have hR9 := lb_rel0 (G := Z) hS.1.1 (fun _ _ => rfl)
  have hC := hR9.cp k d (by omega) hd
  obtain ⟨hx, hb, hmaxL, hown, hts⟩ := id X.1
  refine lv_aload_n hx hb dL_isDevice_23 rfl (lv_at hl 4 rfl) ?_
  refine lv_aload_n hx hb dL_isDevice_24 rfl (lv_at hl 6 rfl) ?_
  refine lv_aload hx hb dL_isDevice_25 (lv_at hl 8 rfl) ?_
  refine lv_aload hx hb dL_isDevice_27 (lv_at hl 9 rfl) ?_
  refine lv_aload hx hb dL_isDevice_29 (lv_at hl 10 rfl) ?_
  refine lv_aload hx hb dL_isDevice_31 (lv_at hl 11 rfl) ?_
  refine lv_iload hx hb dL_isDevice_33 (lv_at hl 12 rfl) ?_
  refine lv_iload hx hb dL_isDevice_35 (lv_at hl 0 rfl) ?_
  refine x_doneI X h (x_runS X h (m_L_state Z hL hok.1 hok.k01 n m t hN hn2 hm10 ht9 d k hd (by omega) _) F_L_state q738 q739 rfl (Nat.le_trans (by decide) hR1) (Nat.le_trans (by decide) hR2) ⟨by omega, by omega⟩ hl.1 (Nat.le_of_ble_eq_true rfl) dL_isDevice_37 rfl) (fun H locs h => ?_)
  rw [h0]
  refine lv_istore (lv' := [(14, .int (nI 0)), (13, .int (nI k)), (12, .int (bI true)), (11, .int (nI cl)), (0, .ref (ad (0, 0, 0, 0))), (1, .ref (ad (35, 0, 0, 0))), (2, .ref (ad (37, 0, 0, 0))), (3, .ref (ad (43, 0, 0, 0))), (4, .ref (ad (44, 0, 0, 0))), (5, .ref (ad (41, 0, 0, 0))), (6, .ref (ad (42, 0, 0, 0))), (7, .ref (ad (40, 0, 0, 0))), (8, .ref (ad (45, 0, 0, 0))), (9, .int (nI d)), (10, .int (nI fd))]) hx hb dL_isDevice_40 hl (by decide) rfl (fun ls hl => ?_)
  refine lv_aload_n hx hb dL_isDevice_42 rfl (lv_at hl 4 rfl) ?_
  refine lv_iload hx hb dL_isDevice_43 (lv_at hl 13 rfl) ?_
  refine lv_iload hx hb dL_isDevice_45 (lv_at hl 1 rfl) ?_
  refine x_doneI X h (x_runV X h (k := (0, 0, 0, 0)) (m_X6_state (LL Z) hL hG2.ok n mcs hBK d k hd hk _) F_X6_state q670 q671 q672 (hL (0, 0, 0, 0) ⟨rfl, rfl, rfl⟩) rfl rfl rfl (Nat.le_trans (by decide) hR1) (Nat.le_trans (by decide) hR2) ⟨by omega, by omega⟩ hl.1 (Nat.le_of_ble_eq_true rfl) dL_isDevice_47 rfl) (fun H locs h => ?_)
  rw [rl_sto hR9 (by omega) hd, h0]
  refine lv_iload hx hb dL_isDevice_50 (lv_at hl 0 rfl) ?_
  refine lv_icmp_ne (tgt := 132) hx hb dL_isDevice_52 (by decide) (fun c => absurd c (by decide)) (fun _ => ?_)
  refine lv_iload hx hb dL_isDevice_55 (lv_at hl 0 rfl) ?_
  refine lv_if_gt (tgt := 128) hx hb dL_isDevice_57 (by decide) (fun c => absurd c (by decide)) (fun _ => ?_)
  refine lv_aload_n hx hb dL_isDevice_60 rfl (lv_at hl 4 rfl) ?_
  refine lv_iconst (v := nI 3) hx hb dL_isDevice_61 (by decide) ?_
  refine lv_iload hx hb dL_isDevice_62 (lv_at hl 13 rfl) ?_
  refine lv_iload hx hb dL_isDevice_64 (lv_at hl 1 rfl) ?_
  refine lv_iconst (v := nI 0) hx hb dL_isDevice_66 (by decide) ?_
  refine lv_iconst (v := nI 0) hx hb dL_isDevice_67 (by decide) ?_
  refine x_doneI X h (x_runSH (n := 6) X h (w_asks_values_I (LL Z) hL (lv := 9) (by decide) (nI d) (nI k) (nI 0) (nI 0) (x_X6_values_1 (LL Z) hst hL hG2.ok n mcs hBK (nI d) (nI k) (nI 0) (by rw [mst_ck hC h0 (by omega) hd hk]; rfl)) _) q669 q5 q667 q668 ⟨by decide, by decide, by decide +kernel⟩ rfl (Nat.le_trans (by decide) hR1) (Nat.le_trans (by decide) hR2) ⟨by omega, by omega⟩ hl.1 (Nat.le_of_ble_eq_true rfl) dL_isDevice_68 rfl) (fun H locs h => ?_)
  refine lv_sipush (v := (-300)) hx hb dL_isDevice_71 (by decide) ?_
  refine lv_icmp_ne (tgt := 132) hx hb dL_isDevice_74 (by decide) (fun c => absurd rfl c) (fun _ => ?_)
  refine lv_aload_n hx hb dL_isDevice_77 rfl (lv_at hl 4 rfl) ?_
  refine lv_iconst (v := nI 4) hx hb dL_isDevice_78 (by decide) ?_
  refine lv_iload hx hb dL_isDevice_79 (lv_at hl 13 rfl) ?_
  refine lv_iload hx hb dL_isDevice_81 (lv_at hl 1 rfl) ?_
  refine lv_iconst (v := nI 0) hx hb dL_isDevice_83 (by decide) ?_
  refine lv_iconst (v := nI 0) hx hb dL_isDevice_84 (by decide) ?_
  refine x_doneI X h (x_runSH (n := 6) X h (w_asks_seen_I (LL Z) hL (lv := 9) (by decide) (nI d) (nI k) (nI 0) (nI 0) (x_X6_seen_1 (LL Z) hst hL hG2.ok n mcs hBK (nI d) (nI k) (nI 0) (nI 0) (by rw [mst_ck hC h0 (by omega) hd hk]; rfl)) _) q669 q5 q667 q668 ⟨by decide, by decide, by decide +kernel⟩ rfl (Nat.le_trans (by decide) hR1) (Nat.le_trans (by decide) hR2) ⟨by omega, by omega⟩ hl.1 (Nat.le_of_ble_eq_true rfl) dL_isDevice_85 rfl) (fun H locs h => ?_)
  refine lv_sipush (v := (-300)) hx hb dL_isDevice_88 (by decide) ?_
  refine lv_icmp_ne (tgt := 132) hx hb dL_isDevice_91 (by decide) (fun c => absurd rfl c) (fun _ => ?_)
  refine lv_aload_n hx hb dL_isDevice_94 rfl (lv_at hl 4 rfl) ?_
  refine lv_iconst (v := nI 5) hx hb dL_isDevice_95 (by decide) ?_
  refine lv_iload hx hb dL_isDevice_96 (lv_at hl 13 rfl) ?_
  refine lv_iload hx hb dL_isDevice_98 (lv_at hl 1 rfl) ?_
  refine lv_iconst (v := nI 0) hx hb dL_isDevice_100 (by decide) ?_
  refine lv_iconst (v := nI 0) hx hb dL_isDevice_101 (by decide) ?_
  refine x_doneI X h (x_runSH (n := 6) X h (w_asks_marks_I (LL Z) hL (lv := 9) (by decide) (nI d) (nI k) (nI 0) (nI 0) (x_X6_marks_1 (LL Z) hst hL hG2.ok n mcs hBK (nI d) (nI k) (mst_ck hC h0 (by omega) hd hk)) _) q669 q5 q667 q668 ⟨by decide, by decide, by decide +kernel⟩ rfl (Nat.le_trans (by decide) hR1) (Nat.le_trans (by decide) hR2) ⟨by omega, by omega⟩ hl.1 (Nat.le_of_ble_eq_true rfl) dL_isDevice_102 rfl) (fun H locs h => ?_)
  refine lv_sipush (v := (-300)) hx hb dL_isDevice_105 (by decide) ?_
  refine lv_icmp_ne (tgt := 132) hx hb dL_isDevice_108 (by decide) (fun c => absurd rfl c) (fun _ => ?_)
  refine lv_aload_n hx hb dL_isDevice_111 rfl (lv_at hl 4 rfl) ?_
  refine lv_iconst (v := nI 1) hx hb dL_isDevice_112 (by decide) ?_
  refine lv_iload hx hb dL_isDevice_113 (lv_at hl 13 rfl) ?_
  refine lv_iload hx hb dL_isDevice_115 (lv_at hl 1 rfl) ?_
  refine lv_iconst (v := nI 0) hx hb dL_isDevice_117 (by decide) ?_
  refine lv_iconst (v := nI 0) hx hb dL_isDevice_118 (by decide) ?_
  refine x_doneI X h (x_runSH (n := 6) X h (w_asks_value_I (LL Z) hL (lv := 9) (by decide) (nI d) (nI k) (nI 0) (nI 0) (x_X6_value_1 (LL Z) hst hL hG2.ok n mcs hBK (nI d) (nI k) (nI 0) (nI 0) (by rw [mst_ck hC h0 (by omega) hd hk]; rfl)) _) q669 q5 q667 q668 ⟨by decide, by decide, by decide +kernel⟩ rfl (Nat.le_trans (by decide) hR1) (Nat.le_trans (by decide) hR2) ⟨by omega, by omega⟩ hl.1 (Nat.le_of_ble_eq_true rfl) dL_isDevice_119 rfl) (fun H locs h => ?_)
  refine lv_sipush (v := (-300)) hx hb dL_isDevice_122 (by decide) ?_
  refine lv_icmp_ne (tgt := 132) hx hb dL_isDevice_125 (by decide) (fun c => absurd rfl c) (fun _ => ?_)
  refine lv_iconst (v := nI 1) hx hb dL_isDevice_128 (by decide) ?_
  refine lv_goto (tgt := 133) hx hb dL_isDevice_129 (by decide) ?_
  refine lv_istore (lv' := [(12, .int (nI 1)), (14, .int (nI 0)), (13, .int (nI k)), (11, .int (nI cl)), (0, .ref (ad (0, 0, 0, 0))), (1, .ref (ad (35, 0, 0, 0))), (2, .ref (ad (37, 0, 0, 0))), (3, .ref (ad (43, 0, 0, 0))), (4, .ref (ad (44, 0, 0, 0))), (5, .ref (ad (41, 0, 0, 0))), (6, .ref (ad (42, 0, 0, 0))), (7, .ref (ad (40, 0, 0, 0))), (8, .ref (ad (45, 0, 0, 0))), (9, .int (nI d)), (10, .int (nI fd))]) hx hb dL_isDevice_133 hl (by decide) rfl (fun ls hl => ?_)
  exact kk H locs ls h (lv_sub hl [1, 2, 0, 3, 4, 5, 6, 7, 8, 9, 10, 11, 12, 13, 14] rfl)

set_option maxHeartbeats 4000000 in
set_option maxRecDepth 100000 in
theorem dv_1p (X : Cx p s mth args meth c cL_isDevice yL_isDevice.cls 21 D tc dz A) (hR1 : 13 ≤ R.frames) (hR2 : 410 ≤ R.locals) (hcR : cells + 0 ≤ R.cells) (hsR : slots + 0 ≤ R.slots) (hL : LV gm Ks) (hst : l.stackTraces = false) (hW : LW gm Ks) (hG2 : GM2 gm) (Z : Mem) (V : Nat → BS) (acts : Nat → Act) (z n m t : Nat) (ac mcs : Nat → Nat) (cn : Nat) (hS : LWS Z gm V acts z n m t ac mcs cn) (hcn : cn < 59) (d k fd cl : Nat) (hd : d < 6) (hk : k < n) (h0 : 0 < mstR Z d k m) (h : Sx D A ad Ks (lay tc ad gm dz (LL Z)) s H locs) (hl : lv_has ls 21 [(13, .int (nI k)), (12, .int (bI true)), (11, .int (nI cl)), (0, .ref (ad (0, 0, 0, 0))), (1, .ref (ad (35, 0, 0, 0))), (2, .ref (ad (37, 0, 0, 0))), (3, .ref (ad (43, 0, 0, 0))), (4, .ref (ad (44, 0, 0, 0))), (5, .ref (ad (41, 0, 0, 0))), (6, .ref (ad (42, 0, 0, 0))), (7, .ref (ad (40, 0, 0, 0))), (8, .ref (ad (45, 0, 0, 0))), (9, .int (nI d)), (10, .int (nI fd))])
    (kk : ∀ (H1 : Heap) (locs1 : List Loc) (ls1 : Array Slot), Sx D A ad Ks (lay tc ad gm dz (LL Z)) s H1 locs1 → lv_has ls1 21 [(14, .int (nI (mstR Z d k m))), (13, .int (nI k)), (12, .int (bI true)), (11, .int (nI cl)), (0, .ref (ad (0, 0, 0, 0))), (1, .ref (ad (35, 0, 0, 0))), (2, .ref (ad (37, 0, 0, 0))), (3, .ref (ad (43, 0, 0, 0))), (4, .ref (ad (44, 0, 0, 0))), (5, .ref (ad (41, 0, 0, 0))), (6, .ref (ad (42, 0, 0, 0))), (7, .ref (ad (40, 0, 0, 0))), (8, .ref (ad (45, 0, 0, 0))), (9, .int (nI d)), (10, .int (nI fd))] → W p l e R s mth args below meth c H1 locs1 cells slots Q (F0 mth 135 ls1 [])) : W p l e R s mth args below meth c H locs cells slots Q (F0 mth 23 ls []) := by
  have hok := hS.2.1
  have hn2 := hS.2.2.1
  have hm10 := hS.2.2.2
  have hN := nr_of hS.1.1
  have ht9 : t ≤ 2000 := by have := hS.1.2.2.2.2.2.2.2.2.2.1; omega
  have hBK := lb_bk (G := Z) hS.1 (fun _ _ => rfl)
  have hR9 := lb_rel0 (G := Z) hS.1.1 (fun _ _ => rfl)
  have hC := hR9.cp k d (by omega) hd
  have hs3 := mst_le Z d k m
  obtain ⟨hx, hb, hmaxL, hown, hts⟩ := id X.1
  refine lv_aload_n hx hb dL_isDevice_23 rfl (lv_at hl 4 rfl) ?_
  refine lv_aload_n hx hb dL_isDevice_24 rfl (lv_at hl 6 rfl) ?_
  refine lv_aload hx hb dL_isDevice_25 (lv_at hl 8 rfl) ?_
  refine lv_aload hx hb dL_isDevice_27 (lv_at hl 9 rfl) ?_
  refine lv_aload hx hb dL_isDevice_29 (lv_at hl 10 rfl) ?_
  refine lv_aload hx hb dL_isDevice_31 (lv_at hl 11 rfl) ?_
  refine lv_iload hx hb dL_isDevice_33 (lv_at hl 12 rfl) ?_
  refine lv_iload hx hb dL_isDevice_35 (lv_at hl 0 rfl) ?_
  refine x_doneI X h (x_runS X h (m_L_state Z hL hok.1 hok.k01 n m t hN hn2 hm10 ht9 d k hd (by omega) _) F_L_state q738 q739 rfl (Nat.le_trans (by decide) hR1) (Nat.le_trans (by decide) hR2) ⟨by omega, by omega⟩ hl.1 (Nat.le_of_ble_eq_true rfl) dL_isDevice_37 rfl) (fun H locs h => ?_)
  refine lv_istore (lv' := [(14, .int (nI (mstR Z d k m))), (13, .int (nI k)), (12, .int (bI true)), (11, .int (nI cl)), (0, .ref (ad (0, 0, 0, 0))), (1, .ref (ad (35, 0, 0, 0))), (2, .ref (ad (37, 0, 0, 0))), (3, .ref (ad (43, 0, 0, 0))), (4, .ref (ad (44, 0, 0, 0))), (5, .ref (ad (41, 0, 0, 0))), (6, .ref (ad (42, 0, 0, 0))), (7, .ref (ad (40, 0, 0, 0))), (8, .ref (ad (45, 0, 0, 0))), (9, .int (nI d)), (10, .int (nI fd))]) hx hb dL_isDevice_40 hl (by decide) rfl (fun ls hl => ?_)
  refine lv_aload_n hx hb dL_isDevice_42 rfl (lv_at hl 4 rfl) ?_
  refine lv_iload hx hb dL_isDevice_43 (lv_at hl 13 rfl) ?_
  refine lv_iload hx hb dL_isDevice_45 (lv_at hl 1 rfl) ?_
  refine x_doneI X h (x_runV X h (k := (0, 0, 0, 0)) (m_X6_state (LL Z) hL hG2.ok n mcs hBK d k hd hk _) F_X6_state q670 q671 q672 (hL (0, 0, 0, 0) ⟨rfl, rfl, rfl⟩) rfl rfl rfl (Nat.le_trans (by decide) hR1) (Nat.le_trans (by decide) hR2) ⟨by omega, by omega⟩ hl.1 (Nat.le_of_ble_eq_true rfl) dL_isDevice_47 rfl) (fun H locs h => ?_)
  rw [rl_sto hR9 (by omega) hd]
  refine lv_iload hx hb dL_isDevice_50 (lv_at hl 0 rfl) ?_
  refine n_icmp_ne (tgt := 132) hx hb (by omega) (by omega) dL_isDevice_52 (by decide) (fun c => absurd rfl c) (fun _ => ?_)
  refine lv_iload hx hb dL_isDevice_55 (lv_at hl 0 rfl) ?_
  refine lv_if_gt (tgt := 128) hx hb dL_isDevice_57 (by decide) (fun _ => ?_) (fun c => absurd (n_gtp h0 (by omega)) c)
  refine lv_iconst (v := nI 1) hx hb dL_isDevice_128 (by decide) ?_
  refine lv_goto (tgt := 133) hx hb dL_isDevice_129 (by decide) ?_
  refine lv_istore (lv' := [(12, .int (nI 1)), (14, .int (nI (mstR Z d k m))), (13, .int (nI k)), (11, .int (nI cl)), (0, .ref (ad (0, 0, 0, 0))), (1, .ref (ad (35, 0, 0, 0))), (2, .ref (ad (37, 0, 0, 0))), (3, .ref (ad (43, 0, 0, 0))), (4, .ref (ad (44, 0, 0, 0))), (5, .ref (ad (41, 0, 0, 0))), (6, .ref (ad (42, 0, 0, 0))), (7, .ref (ad (40, 0, 0, 0))), (8, .ref (ad (45, 0, 0, 0))), (9, .int (nI d)), (10, .int (nI fd))]) hx hb dL_isDevice_133 hl (by decide) rfl (fun ls hl => ?_)
  exact kk H locs ls h (lv_sub hl [1, 2, 0, 3, 4, 5, 6, 7, 8, 9, 10, 11, 12, 13, 14] rfl)

set_option maxHeartbeats 4000000 in
set_option maxRecDepth 100000 in
theorem dv_f0 (X : Cx p s mth args meth c cL_isDevice yL_isDevice.cls 21 D tc dz A) (hR1 : 13 ≤ R.frames) (hR2 : 410 ≤ R.locals) (hcR : cells + 0 ≤ R.cells) (hsR : slots + 0 ≤ R.slots) (hL : LV gm Ks) (hst : l.stackTraces = false) (hW : LW gm Ks) (hG2 : GM2 gm) (Z : Mem) (V : Nat → BS) (acts : Nat → Act) (z n m t : Nat) (ac mcs : Nat → Nat) (cn : Nat) (hS : LWS Z gm V acts z n m t ac mcs cn) (hcn : cn < 59) (d k fd cl : Nat) (hd : d < 6) (hk : k < n) (stt f : Nat) (hs4 : stt ≤ 3) (hf : f < 4) (h0 : 0 < stt) (h : Sx D A ad Ks (lay tc ad gm dz (LL Z)) s H locs) (hl : lv_has ls 21 [(15, .int (nI f)), (14, .int (nI stt)), (13, .int (nI k)), (12, .int (bI true)), (11, .int (nI cl)), (0, .ref (ad (0, 0, 0, 0))), (1, .ref (ad (35, 0, 0, 0))), (2, .ref (ad (37, 0, 0, 0))), (3, .ref (ad (43, 0, 0, 0))), (4, .ref (ad (44, 0, 0, 0))), (5, .ref (ad (41, 0, 0, 0))), (6, .ref (ad (42, 0, 0, 0))), (7, .ref (ad (40, 0, 0, 0))), (8, .ref (ad (45, 0, 0, 0))), (9, .int (nI d)), (10, .int (nI fd))])
    (kk : ∀ (H1 : Heap) (locs1 : List Loc) (ls1 : Array Slot), Sx D A ad Ks (lay tc ad gm dz (LL Z)) s H1 locs1 → lv_has ls1 21 [(19, .int (nI 0)), (18, .int (nI 0)), (16, .long (pk (rw6 (Z (35, 0, 0, 0)) (24 * (10 * d + k) + 6 * f)))), (15, .int (nI f)), (14, .int (nI stt)), (13, .int (nI k)), (12, .int (bI true)), (11, .int (nI cl)), (0, .ref (ad (0, 0, 0, 0))), (1, .ref (ad (35, 0, 0, 0))), (2, .ref (ad (37, 0, 0, 0))), (3, .ref (ad (43, 0, 0, 0))), (4, .ref (ad (44, 0, 0, 0))), (5, .ref (ad (41, 0, 0, 0))), (6, .ref (ad (42, 0, 0, 0))), (7, .ref (ad (40, 0, 0, 0))), (8, .ref (ad (45, 0, 0, 0))), (9, .int (nI d)), (10, .int (nI fd))] → W p l e R s mth args below meth c H1 locs1 cells slots Q (F0 mth 173 ls1 [])) : W p l e R s mth args below meth c H locs cells slots Q (F0 mth 138 ls []) := by
  have hok := hS.2.1
  have hn2 := hS.2.2.1
  have hm10 := hS.2.2.2
  have hN := nr_of hS.1.1
  have ht9 : t ≤ 2000 := by have := hS.1.2.2.2.2.2.2.2.2.2.1; omega
  have hBK := lb_bk (G := Z) hS.1 (fun _ _ => rfl)
  have hR9 := lb_rel0 (G := Z) hS.1.1 (fun _ _ => rfl)
  have hC := hR9.cp k d (by omega) hd
  obtain ⟨hx, hb, hmaxL, hown, hts⟩ := id X.1
  refine lv_iload hx hb dL_isDevice_138 (lv_at hl 0 rfl) ?_
  refine lv_iconst (v := nI 4) hx hb dL_isDevice_140 (by decide) ?_
  refine n_icmp_ge (tgt := 423) hx hb (by omega) (by omega) dL_isDevice_141 (by decide) (fun c => absurd hf (by omega)) (fun _ => ?_)
  refine lv_iload hx hb dL_isDevice_144 (lv_at hl 3 rfl) ?_
  refine b_if_eq (tgt := 423) hx hb dL_isDevice_146 (by decide) (fun c => (Bool.noConfusion c)) (fun _ => ?_)
  refine lv_iload hx hb dL_isDevice_149 (lv_at hl 1 rfl) ?_
  refine lv_if_le (tgt := 423) hx hb dL_isDevice_151 (by decide) (fun c => absurd h0 (n_le0 (by omega) c)) (fun _ => ?_)
  refine lv_aload_n hx hb dL_isDevice_154 rfl (lv_at hl 6 rfl) ?_
  refine lv_iload hx hb dL_isDevice_155 (lv_at hl 14 rfl) ?_
  refine lv_iload hx hb dL_isDevice_157 (lv_at hl 2 rfl) ?_
  refine lv_iload hx hb dL_isDevice_159 (lv_at hl 0 rfl) ?_
  refine x_doneI X h (x_runS X h (m_L_at (LL Z) d k f _) F_L_at q744 q745 rfl (Nat.le_trans (by decide) hR1) (Nat.le_trans (by decide) hR2) ⟨by omega, by omega⟩ hl.1 (Nat.le_of_ble_eq_true rfl) dL_isDevice_161 rfl) (fun H locs h => ?_)
  refine z_lald X h pkB (fun _ => rfl) (by decide) (hL (35, 0, 0, 0) ⟨by decide, rfl, rfl, rfl⟩) (by omega) (v := pk (rw6 (Z (35, 0, 0, 0)) (24 * (10 * d + k) + 6 * f))) ((congrFun (congrArg pkB (LL_see (by decide))) _).trans (pkB_at (by omega) (by omega))) dL_isDevice_164 ?_
  refine lv_lstore (lv' := [(16, .long (pk (rw6 (Z (35, 0, 0, 0)) (24 * (10 * d + k) + 6 * f)))), (15, .int (nI f)), (14, .int (nI stt)), (13, .int (nI k)), (12, .int (bI true)), (11, .int (nI cl)), (0, .ref (ad (0, 0, 0, 0))), (1, .ref (ad (35, 0, 0, 0))), (2, .ref (ad (37, 0, 0, 0))), (3, .ref (ad (43, 0, 0, 0))), (4, .ref (ad (44, 0, 0, 0))), (5, .ref (ad (41, 0, 0, 0))), (6, .ref (ad (42, 0, 0, 0))), (7, .ref (ad (40, 0, 0, 0))), (8, .ref (ad (45, 0, 0, 0))), (9, .int (nI d)), (10, .int (nI fd))]) hx hb dL_isDevice_165 hl (by decide) rfl (fun ls hl => ?_)
  refine lv_iconst (v := nI 0) hx hb dL_isDevice_167 (by decide) ?_
  refine lv_istore (lv' := [(18, .int (nI 0)), (16, .long (pk (rw6 (Z (35, 0, 0, 0)) (24 * (10 * d + k) + 6 * f)))), (15, .int (nI f)), (14, .int (nI stt)), (13, .int (nI k)), (12, .int (bI true)), (11, .int (nI cl)), (0, .ref (ad (0, 0, 0, 0))), (1, .ref (ad (35, 0, 0, 0))), (2, .ref (ad (37, 0, 0, 0))), (3, .ref (ad (43, 0, 0, 0))), (4, .ref (ad (44, 0, 0, 0))), (5, .ref (ad (41, 0, 0, 0))), (6, .ref (ad (42, 0, 0, 0))), (7, .ref (ad (40, 0, 0, 0))), (8, .ref (ad (45, 0, 0, 0))), (9, .int (nI d)), (10, .int (nI fd))]) hx hb dL_isDevice_168 hl (by decide) rfl (fun ls hl => ?_)
  refine lv_iconst (v := nI 0) hx hb dL_isDevice_170 (by decide) ?_
  refine lv_istore (lv' := [(19, .int (nI 0)), (18, .int (nI 0)), (16, .long (pk (rw6 (Z (35, 0, 0, 0)) (24 * (10 * d + k) + 6 * f)))), (15, .int (nI f)), (14, .int (nI stt)), (13, .int (nI k)), (12, .int (bI true)), (11, .int (nI cl)), (0, .ref (ad (0, 0, 0, 0))), (1, .ref (ad (35, 0, 0, 0))), (2, .ref (ad (37, 0, 0, 0))), (3, .ref (ad (43, 0, 0, 0))), (4, .ref (ad (44, 0, 0, 0))), (5, .ref (ad (41, 0, 0, 0))), (6, .ref (ad (42, 0, 0, 0))), (7, .ref (ad (40, 0, 0, 0))), (8, .ref (ad (45, 0, 0, 0))), (9, .int (nI d)), (10, .int (nI fd))]) hx hb dL_isDevice_171 hl (by decide) rfl (fun ls hl => ?_)
  exact kk H locs ls h (lv_sub hl [0, 1, 2, 3, 4, 5, 6, 7, 8, 9, 10, 11, 12, 13, 14, 15, 16, 17, 18] rfl)

set_option maxHeartbeats 4000000 in
set_option maxRecDepth 100000 in
theorem dv_v0 (X : Cx p s mth args meth c cL_isDevice yL_isDevice.cls 21 D tc dz A) (hR1 : 13 ≤ R.frames) (hR2 : 410 ≤ R.locals) (hcR : cells + 0 ≤ R.cells) (hsR : slots + 0 ≤ R.slots) (hL : LV gm Ks) (hst : l.stackTraces = false) (hW : LW gm Ks) (hG2 : GM2 gm) (Z : Mem) (V : Nat → BS) (acts : Nat → Act) (z n m t : Nat) (ac mcs : Nat → Nat) (cn : Nat) (hS : LWS Z gm V acts z n m t ac mcs cn) (hcn : cn < 59) (d k fd cl : Nat) (hd : d < 6) (hk : k < n) (stt f : Nat) (hs4 : stt ≤ 3) (hf : f < 4) (u : Nat → Int32) (hu : ∀ k, k < 6 → sm6 (u k)) (o many : Nat) (ho : o < 6) (hmy : many ≤ 6) (h0 : ¬ 0 < u o) (h : Sx D A ad Ks (lay tc ad gm dz (LL Z)) s H locs) (hl : lv_has ls 21 [(19, .int (nI o)), (18, .int (nI many)), (16, .long (pk u)), (15, .int (nI f)), (14, .int (nI stt)), (13, .int (nI k)), (12, .int (bI true)), (11, .int (nI cl)), (0, .ref (ad (0, 0, 0, 0))), (1, .ref (ad (35, 0, 0, 0))), (2, .ref (ad (37, 0, 0, 0))), (3, .ref (ad (43, 0, 0, 0))), (4, .ref (ad (44, 0, 0, 0))), (5, .ref (ad (41, 0, 0, 0))), (6, .ref (ad (42, 0, 0, 0))), (7, .ref (ad (40, 0, 0, 0))), (8, .ref (ad (45, 0, 0, 0))), (9, .int (nI d)), (10, .int (nI fd))])
    (kk : ∀ (H1 : Heap) (locs1 : List Loc) (ls1 : Array Slot), Sx D A ad Ks (lay tc ad gm dz (LL Z)) s H1 locs1 → lv_has ls1 21 [(19, .int (nI o)), (18, .int (nI many)), (16, .long (pk u)), (15, .int (nI f)), (14, .int (nI stt)), (13, .int (nI k)), (12, .int (bI true)), (11, .int (nI cl)), (0, .ref (ad (0, 0, 0, 0))), (1, .ref (ad (35, 0, 0, 0))), (2, .ref (ad (37, 0, 0, 0))), (3, .ref (ad (43, 0, 0, 0))), (4, .ref (ad (44, 0, 0, 0))), (5, .ref (ad (41, 0, 0, 0))), (6, .ref (ad (42, 0, 0, 0))), (7, .ref (ad (40, 0, 0, 0))), (8, .ref (ad (45, 0, 0, 0))), (9, .int (nI d)), (10, .int (nI fd))] → W p l e R s mth args below meth c H1 locs1 cells slots Q (F0 mth 270 ls1 [])) : W p l e R s mth args below meth c H locs cells slots Q (F0 mth 173 ls []) := by
  have hok := hS.2.1
  have hn2 := hS.2.2.1
  have hm10 := hS.2.2.2
  have hN := nr_of hS.1.1
  have ht9 : t ≤ 2000 := by have := hS.1.2.2.2.2.2.2.2.2.2.1; omega
  have hBK := lb_bk (G := Z) hS.1 (fun _ _ => rfl)
  have hR9 := lb_rel0 (G := Z) hS.1.1 (fun _ _ => rfl)
  have hC := hR9.cp k d (by omega) hd
  obtain ⟨hx, hb, hmaxL, hown, hts⟩ := id X.1
  refine lv_iload hx hb dL_isDevice_173 (lv_at hl 0 rfl) ?_
  refine lv_bipush (v := nI 6) hx hb dL_isDevice_175 (by decide) ?_
  refine n_icmp_ge (tgt := 319) hx hb (by omega) (by omega) dL_isDevice_177 (by decide) (fun c => absurd ho (by omega)) (fun _ => ?_)
  refine lv_iload hx hb dL_isDevice_180 (lv_at hl 6 rfl) ?_
  refine b_if_eq (tgt := 319) hx hb dL_isDevice_182 (by decide) (fun c => (Bool.noConfusion c)) (fun _ => ?_)
  refine lv_lload hx hb dL_isDevice_185 (lv_at hl 2 rfl) ?_
  refine lv_iload hx hb dL_isDevice_187 (lv_at hl 0 rfl) ?_
  refine x_doneI X h (x_runS X h (m_L_get (LL Z) u hu o (by omega) _) F_L_get q750 q751 rfl (Nat.le_trans (by decide) hR1) (Nat.le_trans (by decide) hR2) ⟨by omega, by omega⟩ hl.1 (Nat.le_of_ble_eq_true rfl) dL_isDevice_189 rfl) (fun H locs h => ?_)
  refine lv_if_le (tgt := 270) hx hb dL_isDevice_192 (by decide) (fun _ => ?_) (fun c => absurd (not_le_lt c) h0)
  exact kk H locs ls h (lv_sub hl [0, 1, 2, 3, 4, 5, 6, 7, 8, 9, 10, 11, 12, 13, 14, 15, 16, 17, 18] rfl)

set_option maxHeartbeats 4000000 in
set_option maxRecDepth 100000 in
theorem dv_v1 (X : Cx p s mth args meth c cL_isDevice yL_isDevice.cls 21 D tc dz A) (hR1 : 13 ≤ R.frames) (hR2 : 410 ≤ R.locals) (hcR : cells + 0 ≤ R.cells) (hsR : slots + 0 ≤ R.slots) (hL : LV gm Ks) (hst : l.stackTraces = false) (hW : LW gm Ks) (hG2 : GM2 gm) (Z : Mem) (V : Nat → BS) (acts : Nat → Act) (z n m t : Nat) (ac mcs : Nat → Nat) (cn : Nat) (hS : LWS Z gm V acts z n m t ac mcs cn) (hcn : cn < 59) (d k fd cl : Nat) (hd : d < 6) (hk : k < n) (stt f : Nat) (hs4 : stt ≤ 3) (hf : f < 4) (u : Nat → Int32) (hu : ∀ k, k < 6 → sm6 (u k)) (o many : Nat) (ho : o < 6) (hmy : many ≤ 6) (b : Nat) (hub : u o = nI b) (hb0 : 0 < b) (hb6 : b < 64) (hval : vFrom (LL Z (10, 0, k, d)) (LL Z (11, 0, k, d)) f 6 0 many = nI ((100 * o + 37 * b) % 1000)) (hkn : nz (LL Z (9, 0, k, d) 0) = true) (hlt : many < cvF (LL Z (10, 0, k, d)) f) (h : Sx D A ad Ks (lay tc ad gm dz (LL Z)) s H locs) (hl : lv_has ls 21 [(19, .int (nI o)), (18, .int (nI many)), (16, .long (pk u)), (15, .int (nI f)), (14, .int (nI stt)), (13, .int (nI k)), (12, .int (bI true)), (11, .int (nI cl)), (0, .ref (ad (0, 0, 0, 0))), (1, .ref (ad (35, 0, 0, 0))), (2, .ref (ad (37, 0, 0, 0))), (3, .ref (ad (43, 0, 0, 0))), (4, .ref (ad (44, 0, 0, 0))), (5, .ref (ad (41, 0, 0, 0))), (6, .ref (ad (42, 0, 0, 0))), (7, .ref (ad (40, 0, 0, 0))), (8, .ref (ad (45, 0, 0, 0))), (9, .int (nI d)), (10, .int (nI fd))])
    (kk : ∀ (H1 : Heap) (locs1 : List Loc) (ls1 : Array Slot), Sx D A ad Ks (lay tc ad gm dz (LL Z)) s H1 locs1 → lv_has ls1 21 [(20, .int (nI ((100 * o + 37 * b) % 1000))), (19, .int (nI o)), (18, .int (nI many)), (16, .long (pk u)), (15, .int (nI f)), (14, .int (nI stt)), (13, .int (nI k)), (12, .int (bI true)), (11, .int (nI cl)), (0, .ref (ad (0, 0, 0, 0))), (1, .ref (ad (35, 0, 0, 0))), (2, .ref (ad (37, 0, 0, 0))), (3, .ref (ad (43, 0, 0, 0))), (4, .ref (ad (44, 0, 0, 0))), (5, .ref (ad (41, 0, 0, 0))), (6, .ref (ad (42, 0, 0, 0))), (7, .ref (ad (40, 0, 0, 0))), (8, .ref (ad (45, 0, 0, 0))), (9, .int (nI d)), (10, .int (nI fd))] → W p l e R s mth args below meth c H1 locs1 cells slots Q (F0 mth 226 ls1 [])) : W p l e R s mth args below meth c H locs cells slots Q (F0 mth 173 ls []) := by
  have hok := hS.2.1
  have hn2 := hS.2.2.1
  have hm10 := hS.2.2.2
  have hN := nr_of hS.1.1
  have ht9 : t ≤ 2000 := by have := hS.1.2.2.2.2.2.2.2.2.2.1; omega
  have hBK := lb_bk (G := Z) hS.1 (fun _ _ => rfl)
  have hR9 := lb_rel0 (G := Z) hS.1.1 (fun _ _ => rfl)
  have hC := hR9.cp k d (by omega) hd
  obtain ⟨hx, hb, hmaxL, hown, hts⟩ := id X.1
  refine lv_iload hx hb dL_isDevice_173 (lv_at hl 0 rfl) ?_
  refine lv_bipush (v := nI 6) hx hb dL_isDevice_175 (by decide) ?_
  refine n_icmp_ge (tgt := 319) hx hb (by omega) (by omega) dL_isDevice_177 (by decide) (fun c => absurd ho (by omega)) (fun _ => ?_)
  refine lv_iload hx hb dL_isDevice_180 (lv_at hl 6 rfl) ?_
  refine b_if_eq (tgt := 319) hx hb dL_isDevice_182 (by decide) (fun c => (Bool.noConfusion c)) (fun _ => ?_)
  refine lv_lload hx hb dL_isDevice_185 (lv_at hl 2 rfl) ?_
  refine lv_iload hx hb dL_isDevice_187 (lv_at hl 0 rfl) ?_
  refine x_doneI X h (x_runS X h (m_L_get (LL Z) u hu o ho _) F_L_get q750 q751 rfl (Nat.le_trans (by decide) hR1) (Nat.le_trans (by decide) hR2) ⟨by omega, by omega⟩ hl.1 (Nat.le_of_ble_eq_true rfl) dL_isDevice_189 rfl) (fun H locs h => ?_)
  rw [hub]
  refine lv_if_le (tgt := 270) hx hb dL_isDevice_192 (by decide) (fun c => absurd hb0 (n_le0 (by omega) c)) (fun _ => ?_)
  refine lv_iload hx hb dL_isDevice_195 (lv_at hl 0 rfl) ?_
  refine lv_lload hx hb dL_isDevice_197 (lv_at hl 2 rfl) ?_
  refine lv_iload hx hb dL_isDevice_199 (lv_at hl 0 rfl) ?_
  refine x_doneI X h (x_runS X h (m_L_get (LL Z) u hu o ho _) F_L_get q750 q751 rfl (Nat.le_trans (by decide) hR1) (Nat.le_trans (by decide) hR2) ⟨by omega, by omega⟩ hl.1 (Nat.le_of_ble_eq_true rfl) dL_isDevice_201 rfl) (fun H locs h => ?_)
  rw [hub]
  refine x_doneI X h (x_runS X h (m_L_value (LL Z) o b (by omega) (by omega) _) F_L_value q760 q761 rfl (Nat.le_trans (by decide) hR1) (Nat.le_trans (by decide) hR2) ⟨by omega, by omega⟩ hl.1 (Nat.le_of_ble_eq_true rfl) dL_isDevice_204 rfl) (fun H locs h => ?_)
  refine lv_istore (lv' := [(20, .int (nI ((100 * o + 37 * b) % 1000))), (19, .int (nI o)), (18, .int (nI many)), (16, .long (pk u)), (15, .int (nI f)), (14, .int (nI stt)), (13, .int (nI k)), (12, .int (bI true)), (11, .int (nI cl)), (0, .ref (ad (0, 0, 0, 0))), (1, .ref (ad (35, 0, 0, 0))), (2, .ref (ad (37, 0, 0, 0))), (3, .ref (ad (43, 0, 0, 0))), (4, .ref (ad (44, 0, 0, 0))), (5, .ref (ad (41, 0, 0, 0))), (6, .ref (ad (42, 0, 0, 0))), (7, .ref (ad (40, 0, 0, 0))), (8, .ref (ad (45, 0, 0, 0))), (9, .int (nI d)), (10, .int (nI fd))]) hx hb dL_isDevice_207 hl (by decide) rfl (fun ls hl => ?_)
  refine lv_aload_n hx hb dL_isDevice_209 rfl (lv_at hl 9 rfl) ?_
  refine lv_iload hx hb dL_isDevice_210 (lv_at hl 18 rfl) ?_
  refine lv_iload hx hb dL_isDevice_212 (lv_at hl 6 rfl) ?_
  refine lv_iload hx hb dL_isDevice_214 (lv_at hl 4 rfl) ?_
  refine lv_iload hx hb dL_isDevice_216 (lv_at hl 2 rfl) ?_
  refine x_doneI X h (x_runV X h (k := (0, 0, 0, 0)) (m_X6_value (LL Z) hL hG2.ok n mcs hBK d k f hd hk hf hkn many hlt _) F_X6_value q675 q676 q677 (hL (0, 0, 0, 0) ⟨rfl, rfl, rfl⟩) rfl rfl rfl (Nat.le_trans (by decide) hR1) (Nat.le_trans (by decide) hR2) ⟨by omega, by omega⟩ hl.1 (Nat.le_of_ble_eq_true rfl) dL_isDevice_218 rfl) (fun H locs h => ?_)
  rw [hval]
  refine lv_iload hx hb dL_isDevice_221 (lv_at hl 0 rfl) ?_
  refine n_icmp_ne (tgt := 264) hx hb (by omega) (by omega) dL_isDevice_223 (by decide) (fun c => absurd rfl c) (fun _ => ?_)
  exact kk H locs ls h (lv_sub hl [0, 1, 2, 3, 4, 5, 6, 7, 8, 9, 10, 11, 12, 13, 14, 15, 16, 17, 18, 19] rfl)

set_option maxHeartbeats 4000000 in
set_option maxRecDepth 100000 in
theorem dv_w0 (X : Cx p s mth args meth c cL_isDevice yL_isDevice.cls 21 D tc dz A) (hR1 : 13 ≤ R.frames) (hR2 : 410 ≤ R.locals) (hcR : cells + 0 ≤ R.cells) (hsR : slots + 0 ≤ R.slots) (hL : LV gm Ks) (hst : l.stackTraces = false) (hW : LW gm Ks) (hG2 : GM2 gm) (Z : Mem) (V : Nat → BS) (acts : Nat → Act) (z n m t : Nat) (ac mcs : Nat → Nat) (cn : Nat) (hS : LWS Z gm V acts z n m t ac mcs cn) (hcn : cn < 59) (d k fd cl : Nat) (hd : d < 6) (hk : k < n) (stt f : Nat) (hs4 : stt ≤ 3) (hf : f < 4) (u : Nat → Int32) (hu : ∀ k, k < 6 → sm6 (u k)) (o many : Nat) (ho : o < 6) (hmy : many ≤ 6) (b : Nat) (hk2 : k < 2) (hfd : fd ≤ 8) (hng : ¬ 4 * k + f = fd ∨ 0 < many) (h : Sx D A ad Ks (lay tc ad gm dz (LL Z)) s H locs) (hl : lv_has ls 21 [(20, .int (nI ((100 * o + 37 * b) % 1000))), (19, .int (nI o)), (18, .int (nI many)), (16, .long (pk u)), (15, .int (nI f)), (14, .int (nI stt)), (13, .int (nI k)), (12, .int (bI true)), (11, .int (nI cl)), (0, .ref (ad (0, 0, 0, 0))), (1, .ref (ad (35, 0, 0, 0))), (2, .ref (ad (37, 0, 0, 0))), (3, .ref (ad (43, 0, 0, 0))), (4, .ref (ad (44, 0, 0, 0))), (5, .ref (ad (41, 0, 0, 0))), (6, .ref (ad (42, 0, 0, 0))), (7, .ref (ad (40, 0, 0, 0))), (8, .ref (ad (45, 0, 0, 0))), (9, .int (nI d)), (10, .int (nI fd))])
    (kk : ∀ (H1 : Heap) (locs1 : List Loc) (ls1 : Array Slot), Sx D A ad Ks (lay tc ad gm dz (LL Z)) s H1 locs1 → lv_has ls1 21 [(19, .int (nI o)), (18, .int (nI (many + 1))), (16, .long (pk u)), (15, .int (nI f)), (14, .int (nI stt)), (13, .int (nI k)), (12, .int (bI true)), (11, .int (nI cl)), (0, .ref (ad (0, 0, 0, 0))), (1, .ref (ad (35, 0, 0, 0))), (2, .ref (ad (37, 0, 0, 0))), (3, .ref (ad (43, 0, 0, 0))), (4, .ref (ad (44, 0, 0, 0))), (5, .ref (ad (41, 0, 0, 0))), (6, .ref (ad (42, 0, 0, 0))), (7, .ref (ad (40, 0, 0, 0))), (8, .ref (ad (45, 0, 0, 0))), (9, .int (nI d)), (10, .int (nI fd))] → W p l e R s mth args below meth c H1 locs1 cells slots Q (F0 mth 270 ls1 [])) : W p l e R s mth args below meth c H locs cells slots Q (F0 mth 226 ls []) := by
  have hok := hS.2.1
  have hn2 := hS.2.2.1
  have hm10 := hS.2.2.2
  have hN := nr_of hS.1.1
  have ht9 : t ≤ 2000 := by have := hS.1.2.2.2.2.2.2.2.2.2.1; omega
  have hBK := lb_bk (G := Z) hS.1 (fun _ _ => rfl)
  have hR9 := lb_rel0 (G := Z) hS.1.1 (fun _ _ => rfl)
  have hC := hR9.cp k d (by omega) hd
  obtain ⟨hx, hb, hmaxL, hown, hts⟩ := id X.1
  refine lv_iconst (v := nI 4) hx hb dL_isDevice_226 (by decide) ?_
  refine lv_iload hx hb dL_isDevice_227 (lv_at hl 6 rfl) ?_
  refine n_imul hx hb dL_isDevice_229 ?_
  refine lv_iload hx hb dL_isDevice_230 (lv_at hl 4 rfl) ?_
  refine n_iadd hx hb dL_isDevice_232 ?_
  refine lv_iload hx hb dL_isDevice_233 (lv_at hl 19 rfl) ?_
  refine n_icmp_ne (tgt := 260) hx hb (by omega) (by omega) dL_isDevice_235 (by decide) (fun c_235 => ?_) (fun c_235 => ?_)
  · skip
    refine lv_iconst (v := nI 1) hx hb dL_isDevice_260 (by decide) ?_
    refine lv_goto (tgt := 265) hx hb dL_isDevice_261 (by decide) ?_
    refine lv_istore (lv' := [(12, .int (nI 1)), (20, .int (nI ((100 * o + 37 * b) % 1000))), (19, .int (nI o)), (18, .int (nI many)), (16, .long (pk u)), (15, .int (nI f)), (14, .int (nI stt)), (13, .int (nI k)), (11, .int (nI cl)), (0, .ref (ad (0, 0, 0, 0))), (1, .ref (ad (35, 0, 0, 0))), (2, .ref (ad (37, 0, 0, 0))), (3, .ref (ad (43, 0, 0, 0))), (4, .ref (ad (44, 0, 0, 0))), (5, .ref (ad (41, 0, 0, 0))), (6, .ref (ad (42, 0, 0, 0))), (7, .ref (ad (40, 0, 0, 0))), (8, .ref (ad (45, 0, 0, 0))), (9, .int (nI d)), (10, .int (nI fd))]) hx hb dL_isDevice_265 hl (by decide) rfl (fun ls hl => ?_)
    refine n_iinc (j := many) (n := 1) (lv' := [(18, .int (nI (many + 1))), (12, .int (nI 1)), (20, .int (nI ((100 * o + 37 * b) % 1000))), (19, .int (nI o)), (16, .long (pk u)), (15, .int (nI f)), (14, .int (nI stt)), (13, .int (nI k)), (11, .int (nI cl)), (0, .ref (ad (0, 0, 0, 0))), (1, .ref (ad (35, 0, 0, 0))), (2, .ref (ad (37, 0, 0, 0))), (3, .ref (ad (43, 0, 0, 0))), (4, .ref (ad (44, 0, 0, 0))), (5, .ref (ad (41, 0, 0, 0))), (6, .ref (ad (42, 0, 0, 0))), (7, .ref (ad (40, 0, 0, 0))), (8, .ref (ad (45, 0, 0, 0))), (9, .int (nI d)), (10, .int (nI fd))]) hx hb dL_isDevice_267 hl (k := 3) rfl (by decide) (by decide) rfl (fun ls hl => ?_)
    exact kk H locs ls h (lv_sub hl [3, 0, 4, 5, 6, 7, 1, 8, 9, 10, 11, 12, 13, 14, 15, 16, 17, 18, 19] rfl)
  · skip
    refine lv_iload hx hb dL_isDevice_238 (lv_at hl 2 rfl) ?_
    refine lv_if_gt (tgt := 260) hx hb dL_isDevice_240 (by decide) (fun _ => ?_) (fun c => absurd (n_gtp (show 0 < many by omega) (by omega)) c)
    refine lv_iconst (v := nI 1) hx hb dL_isDevice_260 (by decide) ?_
    refine lv_goto (tgt := 265) hx hb dL_isDevice_261 (by decide) ?_
    refine lv_istore (lv' := [(12, .int (nI 1)), (20, .int (nI ((100 * o + 37 * b) % 1000))), (19, .int (nI o)), (18, .int (nI many)), (16, .long (pk u)), (15, .int (nI f)), (14, .int (nI stt)), (13, .int (nI k)), (11, .int (nI cl)), (0, .ref (ad (0, 0, 0, 0))), (1, .ref (ad (35, 0, 0, 0))), (2, .ref (ad (37, 0, 0, 0))), (3, .ref (ad (43, 0, 0, 0))), (4, .ref (ad (44, 0, 0, 0))), (5, .ref (ad (41, 0, 0, 0))), (6, .ref (ad (42, 0, 0, 0))), (7, .ref (ad (40, 0, 0, 0))), (8, .ref (ad (45, 0, 0, 0))), (9, .int (nI d)), (10, .int (nI fd))]) hx hb dL_isDevice_265 hl (by decide) rfl (fun ls hl => ?_)
    refine n_iinc (j := many) (n := 1) (lv' := [(18, .int (nI (many + 1))), (12, .int (nI 1)), (20, .int (nI ((100 * o + 37 * b) % 1000))), (19, .int (nI o)), (16, .long (pk u)), (15, .int (nI f)), (14, .int (nI stt)), (13, .int (nI k)), (11, .int (nI cl)), (0, .ref (ad (0, 0, 0, 0))), (1, .ref (ad (35, 0, 0, 0))), (2, .ref (ad (37, 0, 0, 0))), (3, .ref (ad (43, 0, 0, 0))), (4, .ref (ad (44, 0, 0, 0))), (5, .ref (ad (41, 0, 0, 0))), (6, .ref (ad (42, 0, 0, 0))), (7, .ref (ad (40, 0, 0, 0))), (8, .ref (ad (45, 0, 0, 0))), (9, .int (nI d)), (10, .int (nI fd))]) hx hb dL_isDevice_267 hl (k := 3) rfl (by decide) (by decide) rfl (fun ls hl => ?_)
    exact kk H locs ls h (lv_sub hl [3, 0, 4, 5, 6, 7, 1, 8, 9, 10, 11, 12, 13, 14, 15, 16, 17, 18, 19] rfl)

set_option maxHeartbeats 4000000 in
set_option maxRecDepth 100000 in
theorem dv_w1 (X : Cx p s mth args meth c cL_isDevice yL_isDevice.cls 21 D tc dz A) (hR1 : 13 ≤ R.frames) (hR2 : 410 ≤ R.locals) (hcR : cells + 50 ≤ R.cells) (hsR : slots + 21110 ≤ R.slots) (hL : LV gm Ks) (hst : l.stackTraces = false) (hW : LW gm Ks) (hG2 : GM2 gm) (Z : Mem) (V : Nat → BS) (acts : Nat → Act) (z n m t : Nat) (ac mcs : Nat → Nat) (cn : Nat) (hS : LWS Z gm V acts z n m t ac mcs cn) (hcn : cn < 59) (d k fd cl : Nat) (hd : d < 6) (hk : k < n) (stt f : Nat) (hs4 : stt ≤ 3) (hf : f < 4) (u : Nat → Int32) (hu : ∀ k, k < 6 → sm6 (u k)) (o : Nat) (ho : o < 6) (b : Nat) (hub : u o = nI b) (hb0 : 0 < b) (hb6 : b < 64) (hval : vFrom (LL Z (10, 0, k, d)) (LL Z (11, 0, k, d)) f 6 0 0 = nI ((100 * o + 37 * b) % 1000)) (hkn : nz (LL Z (9, 0, k, d) 0) = true) (hlt : 0 < cvF (LL Z (10, 0, k, d)) f) (hk2 : k < 2) (hfd : fd ≤ 8) (hng : 4 * k + f = fd) (Y : Mem) (hZ : ∀ k, k < 43 → Z (k, 0, 0, 0) = Y (k, 0, 0, 0)) (h : Sx D A ad Ks (lay tc ad gm dz (LL Z)) s H locs) (hl : lv_has ls 21 [(20, .int (nI ((100 * o + 37 * b) % 1000))), (19, .int (nI o)), (18, .int (nI 0)), (16, .long (pk u)), (15, .int (nI f)), (14, .int (nI stt)), (13, .int (nI k)), (12, .int (bI true)), (11, .int (nI cl)), (0, .ref (ad (0, 0, 0, 0))), (1, .ref (ad (35, 0, 0, 0))), (2, .ref (ad (37, 0, 0, 0))), (3, .ref (ad (43, 0, 0, 0))), (4, .ref (ad (44, 0, 0, 0))), (5, .ref (ad (41, 0, 0, 0))), (6, .ref (ad (42, 0, 0, 0))), (7, .ref (ad (40, 0, 0, 0))), (8, .ref (ad (45, 0, 0, 0))), (9, .int (nI d)), (10, .int (nI fd))])
    (kk : ∀ (ad1 : KN → Nat) (Ks1 : List KN) (gm1 : GM) (Z1 : Mem) (H1 : Heap) (locs1 : List Loc) (ls1 : Array Slot), NX V acts z n m t ac mcs cn Y Ks1 gm1 Z1 → AEq ad ad1 → Sx D A ad1 Ks1 (lay tc ad1 gm1 dz (LL Z1)) s H1 locs1 → lv_has ls1 21 [(19, .int (nI o)), (18, .int (nI (0 + 1))), (16, .long (pk u)), (15, .int (nI f)), (14, .int (nI stt)), (13, .int (nI k)), (12, .int (bI true)), (11, .int (nI cl)), (0, .ref (ad1 (0, 0, 0, 0))), (1, .ref (ad1 (35, 0, 0, 0))), (2, .ref (ad1 (37, 0, 0, 0))), (3, .ref (ad1 (43, 0, 0, 0))), (4, .ref (ad1 (44, 0, 0, 0))), (5, .ref (ad1 (41, 0, 0, 0))), (6, .ref (ad1 (42, 0, 0, 0))), (7, .ref (ad1 (40, 0, 0, 0))), (8, .ref (ad1 (45, 0, 0, 0))), (9, .int (nI d)), (10, .int (nI fd))] → W p l e R s mth args below meth c H1 locs1 (cells + 50) (slots + 21110) Q (F0 mth 270 ls1 [])) : W p l e R s mth args below meth c H locs cells slots Q (F0 mth 226 ls []) := by
  have hok := hS.2.1
  have hn2 := hS.2.2.1
  have hm10 := hS.2.2.2
  have hN := nr_of hS.1.1
  have ht9 : t ≤ 2000 := by have := hS.1.2.2.2.2.2.2.2.2.2.1; omega
  have hBK := lb_bk (G := Z) hS.1 (fun _ _ => rfl)
  have hR9 := lb_rel0 (G := Z) hS.1.1 (fun _ _ => rfl)
  have hC := hR9.cp k d (by omega) hd
  have hV := hS.1.2.2.2.2.1
  have e1 : (V z).2.1 = n := by rw [hV]
  have e2 : (V z).2.2 = mcs := by rw [hV]
  have hnd : need (fun e => (gm 1 e).1) (V z).2.2 10 ≤ 10 := by rw [e2]; exact lws_need hS _
  have hz9 : z ≤ 512 := by have := hS.1.2.2.2.2.2.2.2.1; omega
  have hJR9 := lb_jr (G := Z) hS.1.2.1 (fun _ _ => rfl)
  have hSB9 : SB 0 0 (V z).2.2 (LL Z) (LL Z) (V z).1 := by rw [e2]; exact lb_sb hS.1.2.2.2.1 (fun _ _ => rfl)
  obtain ⟨hx, hb, hmaxL, hown, hts⟩ := id X.1
  refine lv_iconst (v := nI 4) hx hb dL_isDevice_226 (by decide) ?_
  refine lv_iload hx hb dL_isDevice_227 (lv_at hl 6 rfl) ?_
  refine n_imul hx hb dL_isDevice_229 ?_
  refine lv_iload hx hb dL_isDevice_230 (lv_at hl 4 rfl) ?_
  refine n_iadd hx hb dL_isDevice_232 ?_
  refine lv_iload hx hb dL_isDevice_233 (lv_at hl 19 rfl) ?_
  refine n_icmp_ne (tgt := 260) hx hb (by omega) (by omega) dL_isDevice_235 (by decide) (fun c => absurd hng c) (fun _ => ?_)
  refine lv_iload hx hb dL_isDevice_238 (lv_at hl 2 rfl) ?_
  refine lv_if_gt (tgt := 260) hx hb dL_isDevice_240 (by decide) (fun c => absurd c (by decide)) (fun _ => ?_)
  refine lv_aload_n hx hb dL_isDevice_243 rfl (lv_at hl 9 rfl) ?_
  refine lv_iload hx hb dL_isDevice_244 (lv_at hl 18 rfl) ?_
  refine lv_iload hx hb dL_isDevice_246 (lv_at hl 6 rfl) ?_
  refine lv_iload hx hb dL_isDevice_248 (lv_at hl 4 rfl) ?_
  refine lv_iload hx hb dL_isDevice_250 (lv_at hl 2 rfl) ?_
  refine g_doneI X h (x_runV X h (k := (0, 0, 0, 0)) ((m_X6_valueAnew (LL Z) hL hW hG2 V acts z hz9 hS.1.2.2.1 hJR9 hSB9 d k f hd (by rw [e1]; exact hk) hf hkn 0 hlt) _) F_X6_valueAnew q688 q689 q690 (hL (0, 0, 0, 0) ⟨rfl, rfl, rfl⟩) rfl rfl rfl (Nat.le_trans (by decide) hR1) (Nat.le_trans (by decide) hR2) ⟨by omega, by omega⟩ hl.1 (Nat.le_of_ble_eq_true rfl) dL_isDevice_252 rfl) (fun r9 u9 H locs hP h => ?_)
  obtain ⟨hr9, hP⟩ := hP
  rw [hval] at hr9
  rw [hr9]
  have hP : True ∧ NAw tc dz V (LL Z) gm ad Ks z u9 := ⟨trivial, hP⟩
  obtain ⟨ad, Ks, st1⟩ := u9
  obtain ⟨-, gm, I1, hRS, hst1⟩ := hP
  have hst1 : ∀ k, k ∈ Ks → st1 k = lay tc ad gm dz I1 k := hst1
  obtain ⟨hb9, hNX, hAE⟩ := nx_anew hS hL hRS hZ
  have h : Sx D A ad Ks (lay tc ad gm dz I1) s H locs := h.congr hst1
  have hL := hNX.1
  rw [hb9] at h
  have ea0 := hAE 0 (by decide)
  have ea35 := hAE 35 (by decide)
  have ea37 := hAE 37 (by decide)
  have ea39 := hAE 39 (by decide)
  have ea40 := hAE 40 (by decide)
  have ea41 := hAE 41 (by decide)
  have ea42 := hAE 42 (by decide)
  have ea43 := hAE 43 (by decide)
  have ea44 := hAE 44 (by decide)
  have ea45 := hAE 45 (by decide)
  rw [← ea0, ← ea35, ← ea37, ← ea40, ← ea41, ← ea42, ← ea43, ← ea44, ← ea45] at hl
  refine W.widen (k := cells + 50) (n := slots + 21110) (by omega) (by omega) ?_
  refine lv_iload hx hb dL_isDevice_255 (lv_at hl 0 rfl) ?_
  refine n_icmp_ne (tgt := 264) hx hb (by omega) (by omega) dL_isDevice_257 (by decide) (fun c => absurd rfl c) (fun _ => ?_)
  refine lv_iconst (v := nI 1) hx hb dL_isDevice_260 (by decide) ?_
  refine lv_goto (tgt := 265) hx hb dL_isDevice_261 (by decide) ?_
  refine lv_istore (lv' := [(12, .int (nI 1)), (20, .int (nI ((100 * o + 37 * b) % 1000))), (19, .int (nI o)), (18, .int (nI 0)), (16, .long (pk u)), (15, .int (nI f)), (14, .int (nI stt)), (13, .int (nI k)), (11, .int (nI cl)), (0, .ref (ad (0, 0, 0, 0))), (1, .ref (ad (35, 0, 0, 0))), (2, .ref (ad (37, 0, 0, 0))), (3, .ref (ad (43, 0, 0, 0))), (4, .ref (ad (44, 0, 0, 0))), (5, .ref (ad (41, 0, 0, 0))), (6, .ref (ad (42, 0, 0, 0))), (7, .ref (ad (40, 0, 0, 0))), (8, .ref (ad (45, 0, 0, 0))), (9, .int (nI d)), (10, .int (nI fd))]) hx hb dL_isDevice_265 hl (by decide) rfl (fun ls hl => ?_)
  refine n_iinc (j := 0) (n := 1) (lv' := [(18, .int (nI (0 + 1))), (12, .int (nI 1)), (20, .int (nI ((100 * o + 37 * b) % 1000))), (19, .int (nI o)), (16, .long (pk u)), (15, .int (nI f)), (14, .int (nI stt)), (13, .int (nI k)), (11, .int (nI cl)), (0, .ref (ad (0, 0, 0, 0))), (1, .ref (ad (35, 0, 0, 0))), (2, .ref (ad (37, 0, 0, 0))), (3, .ref (ad (43, 0, 0, 0))), (4, .ref (ad (44, 0, 0, 0))), (5, .ref (ad (41, 0, 0, 0))), (6, .ref (ad (42, 0, 0, 0))), (7, .ref (ad (40, 0, 0, 0))), (8, .ref (ad (45, 0, 0, 0))), (9, .int (nI d)), (10, .int (nI fd))]) hx hb dL_isDevice_267 hl (k := 3) rfl (by decide) (by decide) rfl (fun ls hl => ?_)
  exact kk ad Ks gm I1 H locs ls hNX hAE h (lv_sub hl [3, 0, 4, 5, 6, 7, 1, 8, 9, 10, 11, 12, 13, 14, 15, 16, 17, 18, 19] rfl)

set_option maxHeartbeats 4000000 in
set_option maxRecDepth 100000 in
theorem dv_s (X : Cx p s mth args meth c cL_isDevice yL_isDevice.cls 21 D tc dz A) (hR1 : 13 ≤ R.frames) (hR2 : 410 ≤ R.locals) (hcR : cells + 0 ≤ R.cells) (hsR : slots + 0 ≤ R.slots) (hL : LV gm Ks) (hst : l.stackTraces = false) (hW : LW gm Ks) (hG2 : GM2 gm) (Z : Mem) (V : Nat → BS) (acts : Nat → Act) (z n m t : Nat) (ac mcs : Nat → Nat) (cn : Nat) (hS : LWS Z gm V acts z n m t ac mcs cn) (hcn : cn < 59) (d k fd cl : Nat) (hd : d < 6) (hk : k < n) (stt f : Nat) (hs4 : stt ≤ 3) (hf : f < 4) (u : Nat → Int32) (hu : ∀ k, k < 6 → sm6 (u k)) (o many : Nat) (ho : o < 6) (hmy : many ≤ 6) (hk2 : k < 2) (hkn : nz (LL Z (9, 0, k, d) 0) = true) (hse : LL Z (13, 0, k, d) (f * 6 + o) = rw6 (Z (37, 0, 0, 0)) (24 * (10 * d + k) + 6 * f) o) (h : Sx D A ad Ks (lay tc ad gm dz (LL Z)) s H locs) (hl : lv_has ls 21 [(19, .int (nI o)), (18, .int (nI many)), (16, .long (pk u)), (15, .int (nI f)), (14, .int (nI stt)), (13, .int (nI k)), (12, .int (bI true)), (11, .int (nI cl)), (0, .ref (ad (0, 0, 0, 0))), (1, .ref (ad (35, 0, 0, 0))), (2, .ref (ad (37, 0, 0, 0))), (3, .ref (ad (43, 0, 0, 0))), (4, .ref (ad (44, 0, 0, 0))), (5, .ref (ad (41, 0, 0, 0))), (6, .ref (ad (42, 0, 0, 0))), (7, .ref (ad (40, 0, 0, 0))), (8, .ref (ad (45, 0, 0, 0))), (9, .int (nI d)), (10, .int (nI fd))])
    (kk : ∀ (H1 : Heap) (locs1 : List Loc) (ls1 : Array Slot), Sx D A ad Ks (lay tc ad gm dz (LL Z)) s H1 locs1 → lv_has ls1 21 [(19, .int (nI (o + 1))), (18, .int (nI many)), (16, .long (pk u)), (15, .int (nI f)), (14, .int (nI stt)), (13, .int (nI k)), (12, .int (bI true)), (11, .int (nI cl)), (0, .ref (ad (0, 0, 0, 0))), (1, .ref (ad (35, 0, 0, 0))), (2, .ref (ad (37, 0, 0, 0))), (3, .ref (ad (43, 0, 0, 0))), (4, .ref (ad (44, 0, 0, 0))), (5, .ref (ad (41, 0, 0, 0))), (6, .ref (ad (42, 0, 0, 0))), (7, .ref (ad (40, 0, 0, 0))), (8, .ref (ad (45, 0, 0, 0))), (9, .int (nI d)), (10, .int (nI fd))] → W p l e R s mth args below meth c H1 locs1 cells slots Q (F0 mth 173 ls1 [])) : W p l e R s mth args below meth c H locs cells slots Q (F0 mth 270 ls []) := by
  have hok := hS.2.1
  have hn2 := hS.2.2.1
  have hm10 := hS.2.2.2
  have hN := nr_of hS.1.1
  have ht9 : t ≤ 2000 := by have := hS.1.2.2.2.2.2.2.2.2.2.1; omega
  have hBK := lb_bk (G := Z) hS.1 (fun _ _ => rfl)
  have hR9 := lb_rel0 (G := Z) hS.1.1 (fun _ _ => rfl)
  have hC := hR9.cp k d (by omega) hd
  obtain ⟨hx, hb, hmaxL, hown, hts⟩ := id X.1
  refine lv_iload hx hb dL_isDevice_270 (lv_at hl 6 rfl) ?_
  refine b_if_eq (tgt := 310) hx hb dL_isDevice_272 (by decide) (fun c => (Bool.noConfusion c)) (fun _ => ?_)
  refine lv_aload_n hx hb dL_isDevice_275 rfl (lv_at hl 8 rfl) ?_
  refine lv_iload hx hb dL_isDevice_276 (lv_at hl 17 rfl) ?_
  refine lv_iload hx hb dL_isDevice_278 (lv_at hl 5 rfl) ?_
  refine lv_iload hx hb dL_isDevice_280 (lv_at hl 3 rfl) ?_
  refine lv_iload hx hb dL_isDevice_282 (lv_at hl 0 rfl) ?_
  refine x_doneI X h (x_runV X h (k := (0, 0, 0, 0)) (m_X6_seen (LL Z) hL hG2.ok n mcs hBK d k f hd hk hf hkn o ho _) F_X6_seen q720 q721 q722 (hL (0, 0, 0, 0) ⟨rfl, rfl, rfl⟩) rfl rfl rfl (Nat.le_trans (by decide) hR1) (Nat.le_trans (by decide) hR2) ⟨by omega, by omega⟩ hl.1 (Nat.le_of_ble_eq_true rfl) dL_isDevice_284 rfl) (fun H locs h => ?_)
  rw [hse]
  refine lv_aload_n hx hb dL_isDevice_287 rfl (lv_at hl 10 rfl) ?_
  refine lv_iload hx hb dL_isDevice_288 (lv_at hl 17 rfl) ?_
  refine lv_iload hx hb dL_isDevice_290 (lv_at hl 5 rfl) ?_
  refine lv_iload hx hb dL_isDevice_292 (lv_at hl 3 rfl) ?_
  refine x_doneI X h (x_runS X h (m_L_at (LL Z) d k f _) F_L_at q744 q745 rfl (Nat.le_trans (by decide) hR1) (Nat.le_trans (by decide) hR2) ⟨by omega, by omega⟩ hl.1 (Nat.le_of_ble_eq_true rfl) dL_isDevice_294 rfl) (fun H locs h => ?_)
  refine z_lald X h pkB (fun _ => rfl) (by decide) (hL (37, 0, 0, 0) ⟨by decide, rfl, rfl, rfl⟩) (by omega) (v := pk (rw6 (Z (37, 0, 0, 0)) (24 * (10 * d + k) + 6 * f))) ((congrFun (congrArg pkB (LL_see (by decide))) _).trans (pkB_at (by omega) (by omega))) dL_isDevice_297 ?_
  refine lv_iload hx hb dL_isDevice_298 (lv_at hl 0 rfl) ?_
  refine x_doneI X h (x_runS X h (m_L_get (LL Z) (rw6 (Z (37, 0, 0, 0)) (24 * (10 * d + k) + 6 * f)) (fun _ _ => hok.1.2.1 _) o (by omega) _) F_L_get q750 q751 rfl (Nat.le_trans (by decide) hR1) (Nat.le_trans (by decide) hR2) ⟨by omega, by omega⟩ hl.1 (Nat.le_of_ble_eq_true rfl) dL_isDevice_300 rfl) (fun H locs h => ?_)
  refine lv_icmp_ne (tgt := 310) hx hb dL_isDevice_303 (by decide) (fun c => absurd rfl c) (fun _ => ?_)
  refine lv_iconst (v := nI 1) hx hb dL_isDevice_306 (by decide) ?_
  refine lv_goto (tgt := 311) hx hb dL_isDevice_307 (by decide) ?_
  refine lv_istore (lv' := [(12, .int (nI 1)), (19, .int (nI o)), (18, .int (nI many)), (16, .long (pk u)), (15, .int (nI f)), (14, .int (nI stt)), (13, .int (nI k)), (11, .int (nI cl)), (0, .ref (ad (0, 0, 0, 0))), (1, .ref (ad (35, 0, 0, 0))), (2, .ref (ad (37, 0, 0, 0))), (3, .ref (ad (43, 0, 0, 0))), (4, .ref (ad (44, 0, 0, 0))), (5, .ref (ad (41, 0, 0, 0))), (6, .ref (ad (42, 0, 0, 0))), (7, .ref (ad (40, 0, 0, 0))), (8, .ref (ad (45, 0, 0, 0))), (9, .int (nI d)), (10, .int (nI fd))]) hx hb dL_isDevice_311 hl (by decide) rfl (fun ls hl => ?_)
  refine n_iinc (j := o) (n := 1) (lv' := [(19, .int (nI (o + 1))), (12, .int (nI 1)), (18, .int (nI many)), (16, .long (pk u)), (15, .int (nI f)), (14, .int (nI stt)), (13, .int (nI k)), (11, .int (nI cl)), (0, .ref (ad (0, 0, 0, 0))), (1, .ref (ad (35, 0, 0, 0))), (2, .ref (ad (37, 0, 0, 0))), (3, .ref (ad (43, 0, 0, 0))), (4, .ref (ad (44, 0, 0, 0))), (5, .ref (ad (41, 0, 0, 0))), (6, .ref (ad (42, 0, 0, 0))), (7, .ref (ad (40, 0, 0, 0))), (8, .ref (ad (45, 0, 0, 0))), (9, .int (nI d)), (10, .int (nI fd))]) hx hb dL_isDevice_313 hl (k := 1) rfl (by decide) (by decide) rfl (fun ls hl => ?_)
  refine lv_goto (tgt := 173) hx hb dL_isDevice_316 (by decide) ?_
  exact kk H locs ls h (lv_sub hl [0, 2, 3, 4, 5, 6, 1, 7, 8, 9, 10, 11, 12, 13, 14, 15, 16, 17, 18] rfl)

set_option maxHeartbeats 4000000 in
set_option maxRecDepth 100000 in
theorem dv_x (X : Cx p s mth args meth c cL_isDevice yL_isDevice.cls 21 D tc dz A) (hR1 : 13 ≤ R.frames) (hR2 : 410 ≤ R.locals) (hcR : cells + 0 ≤ R.cells) (hsR : slots + 0 ≤ R.slots) (hL : LV gm Ks) (hst : l.stackTraces = false) (hW : LW gm Ks) (hG2 : GM2 gm) (Z : Mem) (V : Nat → BS) (acts : Nat → Act) (z n m t : Nat) (ac mcs : Nat → Nat) (cn : Nat) (hS : LWS Z gm V acts z n m t ac mcs cn) (hcn : cn < 59) (d k fd cl : Nat) (hd : d < 6) (hk : k < n) (stt f : Nat) (hs4 : stt ≤ 3) (hf : f < 4) (u : Nat → Int32) (many : Nat) (h : Sx D A ad Ks (lay tc ad gm dz (LL Z)) s H locs) (hl : lv_has ls 21 [(19, .int (nI 6)), (18, .int (nI many)), (16, .long (pk u)), (15, .int (nI f)), (14, .int (nI stt)), (13, .int (nI k)), (12, .int (bI true)), (11, .int (nI cl)), (0, .ref (ad (0, 0, 0, 0))), (1, .ref (ad (35, 0, 0, 0))), (2, .ref (ad (37, 0, 0, 0))), (3, .ref (ad (43, 0, 0, 0))), (4, .ref (ad (44, 0, 0, 0))), (5, .ref (ad (41, 0, 0, 0))), (6, .ref (ad (42, 0, 0, 0))), (7, .ref (ad (40, 0, 0, 0))), (8, .ref (ad (45, 0, 0, 0))), (9, .int (nI d)), (10, .int (nI fd))])
    (kk : ∀ (H1 : Heap) (locs1 : List Loc) (ls1 : Array Slot), Sx D A ad Ks (lay tc ad gm dz (LL Z)) s H1 locs1 → lv_has ls1 21 [(18, .int (nI many)), (15, .int (nI f)), (14, .int (nI stt)), (13, .int (nI k)), (12, .int (bI true)), (11, .int (nI cl)), (0, .ref (ad (0, 0, 0, 0))), (1, .ref (ad (35, 0, 0, 0))), (2, .ref (ad (37, 0, 0, 0))), (3, .ref (ad (43, 0, 0, 0))), (4, .ref (ad (44, 0, 0, 0))), (5, .ref (ad (41, 0, 0, 0))), (6, .ref (ad (42, 0, 0, 0))), (7, .ref (ad (40, 0, 0, 0))), (8, .ref (ad (45, 0, 0, 0))), (9, .int (nI d)), (10, .int (nI fd))] → W p l e R s mth args below meth c H1 locs1 cells slots Q (F0 mth 319 ls1 [])) : W p l e R s mth args below meth c H locs cells slots Q (F0 mth 173 ls []) := by
  have hok := hS.2.1
  have hn2 := hS.2.2.1
  have hm10 := hS.2.2.2
  have hN := nr_of hS.1.1
  have ht9 : t ≤ 2000 := by have := hS.1.2.2.2.2.2.2.2.2.2.1; omega
  have hBK := lb_bk (G := Z) hS.1 (fun _ _ => rfl)
  have hR9 := lb_rel0 (G := Z) hS.1.1 (fun _ _ => rfl)
  have hC := hR9.cp k d (by omega) hd
  obtain ⟨hx, hb, hmaxL, hown, hts⟩ := id X.1
  refine lv_iload hx hb dL_isDevice_173 (lv_at hl 0 rfl) ?_
  refine lv_bipush (v := nI 6) hx hb dL_isDevice_175 (by decide) ?_
  refine lv_icmp_ge (tgt := 319) hx hb dL_isDevice_177 (by decide) (fun _ => ?_) (fun c => absurd c (by decide))
  exact kk H locs ls h (lv_sub hl [1, 3, 4, 5, 6, 7, 8, 9, 10, 11, 12, 13, 14, 15, 16, 17, 18] rfl)

set_option maxHeartbeats 4000000 in
set_option maxRecDepth 100000 in
theorem dv_c (X : Cx p s mth args meth c cL_isDevice yL_isDevice.cls 21 D tc dz A) (hR1 : 13 ≤ R.frames) (hR2 : 410 ≤ R.locals) (hcR : cells + 0 ≤ R.cells) (hsR : slots + 0 ≤ R.slots) (hL : LV gm Ks) (hst : l.stackTraces = false) (hW : LW gm Ks) (hG2 : GM2 gm) (Z : Mem) (V : Nat → BS) (acts : Nat → Act) (z n m t : Nat) (ac mcs : Nat → Nat) (cn : Nat) (hS : LWS Z gm V acts z n m t ac mcs cn) (hcn : cn < 59) (d k fd cl : Nat) (hd : d < 6) (hk : k < n) (stt f : Nat) (hs4 : stt ≤ 3) (hf : f < 4) (many cl2 : Nat) (hmy : many ≤ 6) (hcl : cl ≤ 8) (hc2 : (stt = 1 ∧ 1 < many ∧ cl2 = cl + 1) ∨ (¬ (stt = 1 ∧ 1 < many) ∧ cl2 = cl)) (h : Sx D A ad Ks (lay tc ad gm dz (LL Z)) s H locs) (hl : lv_has ls 21 [(18, .int (nI many)), (15, .int (nI f)), (14, .int (nI stt)), (13, .int (nI k)), (12, .int (bI true)), (11, .int (nI cl)), (0, .ref (ad (0, 0, 0, 0))), (1, .ref (ad (35, 0, 0, 0))), (2, .ref (ad (37, 0, 0, 0))), (3, .ref (ad (43, 0, 0, 0))), (4, .ref (ad (44, 0, 0, 0))), (5, .ref (ad (41, 0, 0, 0))), (6, .ref (ad (42, 0, 0, 0))), (7, .ref (ad (40, 0, 0, 0))), (8, .ref (ad (45, 0, 0, 0))), (9, .int (nI d)), (10, .int (nI fd))])
    (kk : ∀ (H1 : Heap) (locs1 : List Loc) (ls1 : Array Slot), Sx D A ad Ks (lay tc ad gm dz (LL Z)) s H1 locs1 → lv_has ls1 21 [(18, .int (nI many)), (15, .int (nI f)), (14, .int (nI stt)), (13, .int (nI k)), (12, .int (bI true)), (11, .int (nI cl2)), (0, .ref (ad (0, 0, 0, 0))), (1, .ref (ad (35, 0, 0, 0))), (2, .ref (ad (37, 0, 0, 0))), (3, .ref (ad (43, 0, 0, 0))), (4, .ref (ad (44, 0, 0, 0))), (5, .ref (ad (41, 0, 0, 0))), (6, .ref (ad (42, 0, 0, 0))), (7, .ref (ad (40, 0, 0, 0))), (8, .ref (ad (45, 0, 0, 0))), (9, .int (nI d)), (10, .int (nI fd))] → W p l e R s mth args below meth c H1 locs1 cells slots Q (F0 mth 341 ls1 [])) : W p l e R s mth args below meth c H locs cells slots Q (F0 mth 319 ls []) := by
  have hok := hS.2.1
  have hn2 := hS.2.2.1
  have hm10 := hS.2.2.2
  have hN := nr_of hS.1.1
  have ht9 : t ≤ 2000 := by have := hS.1.2.2.2.2.2.2.2.2.2.1; omega
  have hBK := lb_bk (G := Z) hS.1 (fun _ _ => rfl)
  have hR9 := lb_rel0 (G := Z) hS.1.1 (fun _ _ => rfl)
  have hC := hR9.cp k d (by omega) hd
  obtain ⟨hx, hb, hmaxL, hown, hts⟩ := id X.1
  refine lv_iload hx hb dL_isDevice_319 (lv_at hl 5 rfl) ?_
  refine lv_iload hx hb dL_isDevice_321 (lv_at hl 2 rfl) ?_
  refine lv_iconst (v := nI 1) hx hb dL_isDevice_323 (by decide) ?_
  refine n_icmp_ne (tgt := 337) hx hb (by omega) (by omega) dL_isDevice_324 (by decide) (fun c_324 => ?_) (fun c_324 => ?_)
  · skip
    refine lv_iconst (v := nI 0) hx hb dL_isDevice_337 (by decide) ?_
    refine n_iadd hx hb dL_isDevice_338 ?_
    refine lv_istore (lv' := [(11, .int (nI (cl + 0))), (18, .int (nI many)), (15, .int (nI f)), (14, .int (nI stt)), (13, .int (nI k)), (12, .int (bI true)), (0, .ref (ad (0, 0, 0, 0))), (1, .ref (ad (35, 0, 0, 0))), (2, .ref (ad (37, 0, 0, 0))), (3, .ref (ad (43, 0, 0, 0))), (4, .ref (ad (44, 0, 0, 0))), (5, .ref (ad (41, 0, 0, 0))), (6, .ref (ad (42, 0, 0, 0))), (7, .ref (ad (40, 0, 0, 0))), (8, .ref (ad (45, 0, 0, 0))), (9, .int (nI d)), (10, .int (nI fd))]) hx hb dL_isDevice_339 hl (by decide) rfl (fun ls hl => ?_)
    rw [show cl + 0 = cl2 by omega] at hl
    exact kk H locs ls h (lv_sub hl [1, 2, 3, 4, 5, 0, 6, 7, 8, 9, 10, 11, 12, 13, 14, 15, 16] rfl)
  · skip
    refine lv_iload hx hb dL_isDevice_327 (lv_at hl 0 rfl) ?_
    refine lv_iconst (v := nI 1) hx hb dL_isDevice_329 (by decide) ?_
    refine n_icmp_le (tgt := 337) hx hb (by omega) (by omega) dL_isDevice_330 (by decide) (fun c_330 => ?_) (fun c_330 => ?_)
    · skip
      refine lv_iconst (v := nI 0) hx hb dL_isDevice_337 (by decide) ?_
      refine n_iadd hx hb dL_isDevice_338 ?_
      refine lv_istore (lv' := [(11, .int (nI (cl + 0))), (18, .int (nI many)), (15, .int (nI f)), (14, .int (nI stt)), (13, .int (nI k)), (12, .int (bI true)), (0, .ref (ad (0, 0, 0, 0))), (1, .ref (ad (35, 0, 0, 0))), (2, .ref (ad (37, 0, 0, 0))), (3, .ref (ad (43, 0, 0, 0))), (4, .ref (ad (44, 0, 0, 0))), (5, .ref (ad (41, 0, 0, 0))), (6, .ref (ad (42, 0, 0, 0))), (7, .ref (ad (40, 0, 0, 0))), (8, .ref (ad (45, 0, 0, 0))), (9, .int (nI d)), (10, .int (nI fd))]) hx hb dL_isDevice_339 hl (by decide) rfl (fun ls hl => ?_)
      rw [show cl + 0 = cl2 by omega] at hl
      exact kk H locs ls h (lv_sub hl [1, 2, 3, 4, 5, 0, 6, 7, 8, 9, 10, 11, 12, 13, 14, 15, 16] rfl)
    · skip
      refine lv_iconst (v := nI 1) hx hb dL_isDevice_333 (by decide) ?_
      refine lv_goto (tgt := 338) hx hb dL_isDevice_334 (by decide) ?_
      refine n_iadd hx hb dL_isDevice_338 ?_
      refine lv_istore (lv' := [(11, .int (nI (cl + 1))), (18, .int (nI many)), (15, .int (nI f)), (14, .int (nI stt)), (13, .int (nI k)), (12, .int (bI true)), (0, .ref (ad (0, 0, 0, 0))), (1, .ref (ad (35, 0, 0, 0))), (2, .ref (ad (37, 0, 0, 0))), (3, .ref (ad (43, 0, 0, 0))), (4, .ref (ad (44, 0, 0, 0))), (5, .ref (ad (41, 0, 0, 0))), (6, .ref (ad (42, 0, 0, 0))), (7, .ref (ad (40, 0, 0, 0))), (8, .ref (ad (45, 0, 0, 0))), (9, .int (nI d)), (10, .int (nI fd))]) hx hb dL_isDevice_339 hl (by decide) rfl (fun ls hl => ?_)
      rw [show cl + 1 = cl2 by omega] at hl
      exact kk H locs ls h (lv_sub hl [1, 2, 3, 4, 5, 0, 6, 7, 8, 9, 10, 11, 12, 13, 14, 15, 16] rfl)

set_option maxHeartbeats 4000000 in
set_option maxRecDepth 100000 in
theorem dv_q0 (X : Cx p s mth args meth c cL_isDevice yL_isDevice.cls 21 D tc dz A) (hR1 : 13 ≤ R.frames) (hR2 : 410 ≤ R.locals) (hcR : cells + 1 ≤ R.cells) (hsR : slots + 6 ≤ R.slots) (hL : LV gm Ks) (hst : l.stackTraces = false) (hW : LW gm Ks) (hG2 : GM2 gm) (Z : Mem) (V : Nat → BS) (acts : Nat → Act) (z n m t : Nat) (ac mcs : Nat → Nat) (cn : Nat) (hS : LWS Z gm V acts z n m t ac mcs cn) (hcn : cn < 59) (d k fd cl : Nat) (hd : d < 6) (hk : k < n) (stt f : Nat) (hs4 : stt ≤ 3) (hf : f < 4) (many : Nat) (hmy : many ≤ 6) (hk2 : k < 2) (hfd : fd ≤ 8) (hkn : nz (LL Z (9, 0, k, d) 0) = true) (hvl : cvF (LL Z (10, 0, k, d)) f = many) (hng : ¬ 4 * k + f = fd) (h : Sx D A ad Ks (lay tc ad gm dz (LL Z)) s H locs) (hl : lv_has ls 21 [(18, .int (nI many)), (15, .int (nI f)), (14, .int (nI stt)), (13, .int (nI k)), (12, .int (bI true)), (11, .int (nI cl)), (0, .ref (ad (0, 0, 0, 0))), (1, .ref (ad (35, 0, 0, 0))), (2, .ref (ad (37, 0, 0, 0))), (3, .ref (ad (43, 0, 0, 0))), (4, .ref (ad (44, 0, 0, 0))), (5, .ref (ad (41, 0, 0, 0))), (6, .ref (ad (42, 0, 0, 0))), (7, .ref (ad (40, 0, 0, 0))), (8, .ref (ad (45, 0, 0, 0))), (9, .int (nI d)), (10, .int (nI fd))])
    (kk : ∀ (H1 : Heap) (locs1 : List Loc) (ls1 : Array Slot), Sx D A ad Ks (lay tc ad gm dz (LL Z)) s H1 locs1 → lv_has ls1 21 [(15, .int (nI (f + 1))), (14, .int (nI stt)), (13, .int (nI k)), (12, .int (bI true)), (11, .int (nI cl)), (0, .ref (ad (0, 0, 0, 0))), (1, .ref (ad (35, 0, 0, 0))), (2, .ref (ad (37, 0, 0, 0))), (3, .ref (ad (43, 0, 0, 0))), (4, .ref (ad (44, 0, 0, 0))), (5, .ref (ad (41, 0, 0, 0))), (6, .ref (ad (42, 0, 0, 0))), (7, .ref (ad (40, 0, 0, 0))), (8, .ref (ad (45, 0, 0, 0))), (9, .int (nI d)), (10, .int (nI fd))] → W p l e R s mth args below meth c H1 locs1 (cells + 1) (slots + 6) Q (F0 mth 138 ls1 [])) : W p l e R s mth args below meth c H locs cells slots Q (F0 mth 341 ls []) := by
  have hok := hS.2.1
  have hn2 := hS.2.2.1
  have hm10 := hS.2.2.2
  have hN := nr_of hS.1.1
  have ht9 : t ≤ 2000 := by have := hS.1.2.2.2.2.2.2.2.2.2.1; omega
  have hBK := lb_bk (G := Z) hS.1 (fun _ _ => rfl)
  have hR9 := lb_rel0 (G := Z) hS.1.1 (fun _ _ => rfl)
  have hC := hR9.cp k d (by omega) hd
  obtain ⟨hx, hb, hmaxL, hown, hts⟩ := id X.1
  refine lv_iload hx hb dL_isDevice_341 (lv_at hl 4 rfl) ?_
  refine b_if_eq (tgt := 414) hx hb dL_isDevice_343 (by decide) (fun c => (Bool.noConfusion c)) (fun _ => ?_)
  refine lv_aload_n hx hb dL_isDevice_346 rfl (lv_at hl 6 rfl) ?_
  refine lv_iload hx hb dL_isDevice_347 (lv_at hl 15 rfl) ?_
  refine lv_iload hx hb dL_isDevice_349 (lv_at hl 3 rfl) ?_
  refine lv_iload hx hb dL_isDevice_351 (lv_at hl 1 rfl) ?_
  refine x_doneI X h (x_runV X h (k := (0, 0, 0, 0)) (m_X6_values (LL Z) hL hG2.ok n mcs hBK d k f hd hk hf hkn _) F_X6_values q716 q717 q718 (hL (0, 0, 0, 0) ⟨rfl, rfl, rfl⟩) rfl rfl rfl (Nat.le_trans (by decide) hR1) (Nat.le_trans (by decide) hR2) ⟨by omega, by omega⟩ hl.1 (Nat.le_of_ble_eq_true rfl) dL_isDevice_353 rfl) (fun H locs h => ?_)
  rw [hvl]
  refine lv_iload hx hb dL_isDevice_356 (lv_at hl 0 rfl) ?_
  refine n_icmp_ne (tgt := 414) hx hb (by omega) (by omega) dL_isDevice_358 (by decide) (fun c => absurd rfl c) (fun _ => ?_)
  refine lv_aload_n hx hb dL_isDevice_361 rfl (lv_at hl 6 rfl) ?_
  refine lv_iconst (v := nI 1) hx hb dL_isDevice_362 (by decide) ?_
  refine lv_iload hx hb dL_isDevice_363 (lv_at hl 15 rfl) ?_
  refine lv_iload hx hb dL_isDevice_365 (lv_at hl 3 rfl) ?_
  refine lv_iload hx hb dL_isDevice_367 (lv_at hl 1 rfl) ?_
  refine lv_iload hx hb dL_isDevice_369 (lv_at hl 0 rfl) ?_
  refine x_doneI X h (x_runSH (n := 6) X h (w_asks_value_I (LL Z) hL (lv := 9) (by decide) (nI d) (nI k) (nI f) (nI many) (x_X6_value_1 (LL Z) hst hL hG2.ok n mcs hBK (nI d) (nI k) (nI f) (nI many) (cix_out hvl hd (by omega) hf)) _) q669 q5 q667 q668 ⟨by decide, by decide, by decide +kernel⟩ rfl (Nat.le_trans (by decide) hR1) (Nat.le_trans (by decide) hR2) ⟨by omega, by omega⟩ hl.1 (Nat.le_of_ble_eq_true rfl) dL_isDevice_371 rfl) (fun H locs h => ?_)
  refine lv_sipush (v := (-300)) hx hb dL_isDevice_374 (by decide) ?_
  refine lv_icmp_ne (tgt := 414) hx hb dL_isDevice_377 (by decide) (fun c => absurd rfl c) (fun _ => ?_)
  refine lv_iconst (v := nI 4) hx hb dL_isDevice_380 (by decide) ?_
  refine lv_iload hx hb dL_isDevice_381 (lv_at hl 3 rfl) ?_
  refine n_imul hx hb dL_isDevice_383 ?_
  refine lv_iload hx hb dL_isDevice_384 (lv_at hl 1 rfl) ?_
  refine n_iadd hx hb dL_isDevice_386 ?_
  refine lv_iload hx hb dL_isDevice_387 (lv_at hl 16 rfl) ?_
  refine n_icmp_ne (tgt := 410) hx hb (by omega) (by omega) dL_isDevice_389 (by decide) (fun _ => ?_) (fun c => absurd c hng)
  refine lv_iconst (v := nI 1) hx hb dL_isDevice_410 (by decide) ?_
  refine lv_goto (tgt := 415) hx hb dL_isDevice_411 (by decide) ?_
  refine lv_istore (lv' := [(12, .int (nI 1)), (18, .int (nI many)), (15, .int (nI f)), (14, .int (nI stt)), (13, .int (nI k)), (11, .int (nI cl)), (0, .ref (ad (0, 0, 0, 0))), (1, .ref (ad (35, 0, 0, 0))), (2, .ref (ad (37, 0, 0, 0))), (3, .ref (ad (43, 0, 0, 0))), (4, .ref (ad (44, 0, 0, 0))), (5, .ref (ad (41, 0, 0, 0))), (6, .ref (ad (42, 0, 0, 0))), (7, .ref (ad (40, 0, 0, 0))), (8, .ref (ad (45, 0, 0, 0))), (9, .int (nI d)), (10, .int (nI fd))]) hx hb dL_isDevice_415 hl (by decide) rfl (fun ls hl => ?_)
  refine n_iinc (j := f) (n := 1) (lv' := [(15, .int (nI (f + 1))), (12, .int (nI 1)), (18, .int (nI many)), (14, .int (nI stt)), (13, .int (nI k)), (11, .int (nI cl)), (0, .ref (ad (0, 0, 0, 0))), (1, .ref (ad (35, 0, 0, 0))), (2, .ref (ad (37, 0, 0, 0))), (3, .ref (ad (43, 0, 0, 0))), (4, .ref (ad (44, 0, 0, 0))), (5, .ref (ad (41, 0, 0, 0))), (6, .ref (ad (42, 0, 0, 0))), (7, .ref (ad (40, 0, 0, 0))), (8, .ref (ad (45, 0, 0, 0))), (9, .int (nI d)), (10, .int (nI fd))]) hx hb dL_isDevice_417 hl (k := 2) rfl (by decide) (by decide) rfl (fun ls hl => ?_)
  refine lv_goto (tgt := 138) hx hb dL_isDevice_420 (by decide) ?_
  exact kk H locs ls h (lv_sub hl [0, 3, 4, 1, 5, 6, 7, 8, 9, 10, 11, 12, 13, 14, 15, 16] rfl)

set_option maxHeartbeats 4000000 in
set_option maxRecDepth 100000 in
theorem dv_q1 (X : Cx p s mth args meth c cL_isDevice yL_isDevice.cls 21 D tc dz A) (hR1 : 13 ≤ R.frames) (hR2 : 410 ≤ R.locals) (hcR : cells + 52 ≤ R.cells) (hsR : slots + 21122 ≤ R.slots) (hL : LV gm Ks) (hst : l.stackTraces = false) (hW : LW gm Ks) (hG2 : GM2 gm) (Z : Mem) (V : Nat → BS) (acts : Nat → Act) (z n m t : Nat) (ac mcs : Nat → Nat) (cn : Nat) (hS : LWS Z gm V acts z n m t ac mcs cn) (hcn : cn < 59) (d k fd cl : Nat) (hd : d < 6) (hk : k < n) (stt f : Nat) (hs4 : stt ≤ 3) (hf : f < 4) (many : Nat) (hmy : many ≤ 6) (hk2 : k < 2) (hfd : fd ≤ 8) (hkn : nz (LL Z (9, 0, k, d) 0) = true) (hvl : cvF (LL Z (10, 0, k, d)) f = many) (hng : 4 * k + f = fd) (Y : Mem) (hZ : ∀ k, k < 43 → Z (k, 0, 0, 0) = Y (k, 0, 0, 0)) (h : Sx D A ad Ks (lay tc ad gm dz (LL Z)) s H locs) (hl : lv_has ls 21 [(18, .int (nI many)), (15, .int (nI f)), (14, .int (nI stt)), (13, .int (nI k)), (12, .int (bI true)), (11, .int (nI cl)), (0, .ref (ad (0, 0, 0, 0))), (1, .ref (ad (35, 0, 0, 0))), (2, .ref (ad (37, 0, 0, 0))), (3, .ref (ad (43, 0, 0, 0))), (4, .ref (ad (44, 0, 0, 0))), (5, .ref (ad (41, 0, 0, 0))), (6, .ref (ad (42, 0, 0, 0))), (7, .ref (ad (40, 0, 0, 0))), (8, .ref (ad (45, 0, 0, 0))), (9, .int (nI d)), (10, .int (nI fd))])
    (kk : ∀ (ad1 : KN → Nat) (Ks1 : List KN) (gm1 : GM) (Z1 : Mem) (H1 : Heap) (locs1 : List Loc) (ls1 : Array Slot), NX V acts z n m t ac mcs cn Y Ks1 gm1 Z1 → AEq ad ad1 → Sx D A ad1 Ks1 (lay tc ad1 gm1 dz (LL Z1)) s H1 locs1 → lv_has ls1 21 [(15, .int (nI (f + 1))), (14, .int (nI stt)), (13, .int (nI k)), (12, .int (bI true)), (11, .int (nI cl)), (0, .ref (ad1 (0, 0, 0, 0))), (1, .ref (ad1 (35, 0, 0, 0))), (2, .ref (ad1 (37, 0, 0, 0))), (3, .ref (ad1 (43, 0, 0, 0))), (4, .ref (ad1 (44, 0, 0, 0))), (5, .ref (ad1 (41, 0, 0, 0))), (6, .ref (ad1 (42, 0, 0, 0))), (7, .ref (ad1 (40, 0, 0, 0))), (8, .ref (ad1 (45, 0, 0, 0))), (9, .int (nI d)), (10, .int (nI fd))] → W p l e R s mth args below meth c H1 locs1 (cells + 52) (slots + 21122) Q (F0 mth 138 ls1 [])) : W p l e R s mth args below meth c H locs cells slots Q (F0 mth 341 ls []) := by
  have hok := hS.2.1
  have hn2 := hS.2.2.1
  have hm10 := hS.2.2.2
  have hN := nr_of hS.1.1
  have ht9 : t ≤ 2000 := by have := hS.1.2.2.2.2.2.2.2.2.2.1; omega
  have hBK := lb_bk (G := Z) hS.1 (fun _ _ => rfl)
  have hR9 := lb_rel0 (G := Z) hS.1.1 (fun _ _ => rfl)
  have hC := hR9.cp k d (by omega) hd
  have hV := hS.1.2.2.2.2.1
  have e1 : (V z).2.1 = n := by rw [hV]
  have e2 : (V z).2.2 = mcs := by rw [hV]
  have hnd : need (fun e => (gm 1 e).1) (V z).2.2 10 ≤ 10 := by rw [e2]; exact lws_need hS _
  have hz9 : z ≤ 512 := by have := hS.1.2.2.2.2.2.2.2.1; omega
  have hJR9 := lb_jr (G := Z) hS.1.2.1 (fun _ _ => rfl)
  have hSB9 : SB 0 0 (V z).2.2 (LL Z) (LL Z) (V z).1 := by rw [e2]; exact lb_sb hS.1.2.2.2.1 (fun _ _ => rfl)
  obtain ⟨hx, hb, hmaxL, hown, hts⟩ := id X.1
  refine lv_iload hx hb dL_isDevice_341 (lv_at hl 4 rfl) ?_
  refine b_if_eq (tgt := 414) hx hb dL_isDevice_343 (by decide) (fun c => (Bool.noConfusion c)) (fun _ => ?_)
  refine lv_aload_n hx hb dL_isDevice_346 rfl (lv_at hl 6 rfl) ?_
  refine lv_iload hx hb dL_isDevice_347 (lv_at hl 15 rfl) ?_
  refine lv_iload hx hb dL_isDevice_349 (lv_at hl 3 rfl) ?_
  refine lv_iload hx hb dL_isDevice_351 (lv_at hl 1 rfl) ?_
  refine x_doneI X h (x_runV X h (k := (0, 0, 0, 0)) (m_X6_values (LL Z) hL hG2.ok n mcs hBK d k f hd hk hf hkn _) F_X6_values q716 q717 q718 (hL (0, 0, 0, 0) ⟨rfl, rfl, rfl⟩) rfl rfl rfl (Nat.le_trans (by decide) hR1) (Nat.le_trans (by decide) hR2) ⟨by omega, by omega⟩ hl.1 (Nat.le_of_ble_eq_true rfl) dL_isDevice_353 rfl) (fun H locs h => ?_)
  rw [hvl]
  refine lv_iload hx hb dL_isDevice_356 (lv_at hl 0 rfl) ?_
  refine n_icmp_ne (tgt := 414) hx hb (by omega) (by omega) dL_isDevice_358 (by decide) (fun c => absurd rfl c) (fun _ => ?_)
  refine lv_aload_n hx hb dL_isDevice_361 rfl (lv_at hl 6 rfl) ?_
  refine lv_iconst (v := nI 1) hx hb dL_isDevice_362 (by decide) ?_
  refine lv_iload hx hb dL_isDevice_363 (lv_at hl 15 rfl) ?_
  refine lv_iload hx hb dL_isDevice_365 (lv_at hl 3 rfl) ?_
  refine lv_iload hx hb dL_isDevice_367 (lv_at hl 1 rfl) ?_
  refine lv_iload hx hb dL_isDevice_369 (lv_at hl 0 rfl) ?_
  refine x_doneI X h (x_runSH (n := 6) X h (w_asks_value_I (LL Z) hL (lv := 9) (by decide) (nI d) (nI k) (nI f) (nI many) (x_X6_value_1 (LL Z) hst hL hG2.ok n mcs hBK (nI d) (nI k) (nI f) (nI many) (cix_out hvl hd (by omega) hf)) _) q669 q5 q667 q668 ⟨by decide, by decide, by decide +kernel⟩ rfl (Nat.le_trans (by decide) hR1) (Nat.le_trans (by decide) hR2) ⟨by omega, by omega⟩ hl.1 (Nat.le_of_ble_eq_true rfl) dL_isDevice_371 rfl) (fun H locs h => ?_)
  refine lv_sipush (v := (-300)) hx hb dL_isDevice_374 (by decide) ?_
  refine lv_icmp_ne (tgt := 414) hx hb dL_isDevice_377 (by decide) (fun c => absurd rfl c) (fun _ => ?_)
  refine lv_iconst (v := nI 4) hx hb dL_isDevice_380 (by decide) ?_
  refine lv_iload hx hb dL_isDevice_381 (lv_at hl 3 rfl) ?_
  refine n_imul hx hb dL_isDevice_383 ?_
  refine lv_iload hx hb dL_isDevice_384 (lv_at hl 1 rfl) ?_
  refine n_iadd hx hb dL_isDevice_386 ?_
  refine lv_iload hx hb dL_isDevice_387 (lv_at hl 16 rfl) ?_
  refine n_icmp_ne (tgt := 410) hx hb (by omega) (by omega) dL_isDevice_389 (by decide) (fun c => absurd hng c) (fun _ => ?_)
  refine lv_aload_n hx hb dL_isDevice_392 rfl (lv_at hl 6 rfl) ?_
  refine lv_iconst (v := nI 2) hx hb dL_isDevice_393 (by decide) ?_
  refine lv_iload hx hb dL_isDevice_394 (lv_at hl 15 rfl) ?_
  refine lv_iload hx hb dL_isDevice_396 (lv_at hl 3 rfl) ?_
  refine lv_iload hx hb dL_isDevice_398 (lv_at hl 1 rfl) ?_
  refine lv_iconst (v := (-1)) hx hb dL_isDevice_400 (by decide) ?_
  refine g_doneI X h (x_runSH (n := 6) X h ((w_asks_valueAnew_I (LL Z) hL (lv := 11) (by decide) (nI d) (nI k) (nI f) (-1) (x_X6_valueAnew_1 (LL Z) hst hL hW hG2 V acts z hz9 hS.1.2.2.1 hJR9 hSB9 (nI d) (nI k) (nI f) (-1) cix_neg)) _) q669 q5 q667 q668 ⟨by decide, by decide, by decide +kernel⟩ rfl (Nat.le_trans (by decide) hR1) (Nat.le_trans (by decide) hR2) ⟨by omega, by omega⟩ hl.1 (Nat.le_of_ble_eq_true rfl) dL_isDevice_401 rfl) (fun r9 u9 H locs hP h => ?_)
  obtain ⟨hr9, hP⟩ := hP
  rw [hr9]
  have hP : True ∧ NAw tc dz V (LL Z) gm ad Ks z u9 := ⟨trivial, hP⟩
  obtain ⟨ad, Ks, st1⟩ := u9
  obtain ⟨-, gm, I1, hRS, hst1⟩ := hP
  have hst1 : ∀ k, k ∈ Ks → st1 k = lay tc ad gm dz I1 k := hst1
  obtain ⟨hb9, hNX, hAE⟩ := nx_anew hS hL hRS hZ
  have h : Sx D A ad Ks (lay tc ad gm dz I1) s H locs := h.congr hst1
  have hL := hNX.1
  rw [hb9] at h
  have ea0 := hAE 0 (by decide)
  have ea35 := hAE 35 (by decide)
  have ea37 := hAE 37 (by decide)
  have ea39 := hAE 39 (by decide)
  have ea40 := hAE 40 (by decide)
  have ea41 := hAE 41 (by decide)
  have ea42 := hAE 42 (by decide)
  have ea43 := hAE 43 (by decide)
  have ea44 := hAE 44 (by decide)
  have ea45 := hAE 45 (by decide)
  rw [← ea0, ← ea35, ← ea37, ← ea40, ← ea41, ← ea42, ← ea43, ← ea44, ← ea45] at hl
  refine W.widen (k := cells + 52) (n := slots + 21122) (by omega) (by omega) ?_
  refine lv_sipush (v := (-300)) hx hb dL_isDevice_404 (by decide) ?_
  refine lv_icmp_ne (tgt := 414) hx hb dL_isDevice_407 (by decide) (fun c => absurd rfl c) (fun _ => ?_)
  refine lv_iconst (v := nI 1) hx hb dL_isDevice_410 (by decide) ?_
  refine lv_goto (tgt := 415) hx hb dL_isDevice_411 (by decide) ?_
  refine lv_istore (lv' := [(12, .int (nI 1)), (18, .int (nI many)), (15, .int (nI f)), (14, .int (nI stt)), (13, .int (nI k)), (11, .int (nI cl)), (0, .ref (ad (0, 0, 0, 0))), (1, .ref (ad (35, 0, 0, 0))), (2, .ref (ad (37, 0, 0, 0))), (3, .ref (ad (43, 0, 0, 0))), (4, .ref (ad (44, 0, 0, 0))), (5, .ref (ad (41, 0, 0, 0))), (6, .ref (ad (42, 0, 0, 0))), (7, .ref (ad (40, 0, 0, 0))), (8, .ref (ad (45, 0, 0, 0))), (9, .int (nI d)), (10, .int (nI fd))]) hx hb dL_isDevice_415 hl (by decide) rfl (fun ls hl => ?_)
  refine n_iinc (j := f) (n := 1) (lv' := [(15, .int (nI (f + 1))), (12, .int (nI 1)), (18, .int (nI many)), (14, .int (nI stt)), (13, .int (nI k)), (11, .int (nI cl)), (0, .ref (ad (0, 0, 0, 0))), (1, .ref (ad (35, 0, 0, 0))), (2, .ref (ad (37, 0, 0, 0))), (3, .ref (ad (43, 0, 0, 0))), (4, .ref (ad (44, 0, 0, 0))), (5, .ref (ad (41, 0, 0, 0))), (6, .ref (ad (42, 0, 0, 0))), (7, .ref (ad (40, 0, 0, 0))), (8, .ref (ad (45, 0, 0, 0))), (9, .int (nI d)), (10, .int (nI fd))]) hx hb dL_isDevice_417 hl (k := 2) rfl (by decide) (by decide) rfl (fun ls hl => ?_)
  refine lv_goto (tgt := 138) hx hb dL_isDevice_420 (by decide) ?_
  exact kk ad Ks gm I1 H locs ls hNX hAE h (lv_sub hl [0, 3, 4, 1, 5, 6, 7, 8, 9, 10, 11, 12, 13, 14, 15, 16] rfl)

set_option maxHeartbeats 4000000 in
set_option maxRecDepth 100000 in
theorem dv_f4 (X : Cx p s mth args meth c cL_isDevice yL_isDevice.cls 21 D tc dz A) (hR1 : 13 ≤ R.frames) (hR2 : 410 ≤ R.locals) (hcR : cells + 0 ≤ R.cells) (hsR : slots + 0 ≤ R.slots) (hL : LV gm Ks) (hst : l.stackTraces = false) (hW : LW gm Ks) (hG2 : GM2 gm) (Z : Mem) (V : Nat → BS) (acts : Nat → Act) (z n m t : Nat) (ac mcs : Nat → Nat) (cn : Nat) (hS : LWS Z gm V acts z n m t ac mcs cn) (hcn : cn < 59) (d k fd cl : Nat) (hd : d < 6) (hk : k < n) (stt : Nat) (h : Sx D A ad Ks (lay tc ad gm dz (LL Z)) s H locs) (hl : lv_has ls 21 [(15, .int (nI 4)), (14, .int (nI stt)), (13, .int (nI k)), (12, .int (bI true)), (11, .int (nI cl)), (0, .ref (ad (0, 0, 0, 0))), (1, .ref (ad (35, 0, 0, 0))), (2, .ref (ad (37, 0, 0, 0))), (3, .ref (ad (43, 0, 0, 0))), (4, .ref (ad (44, 0, 0, 0))), (5, .ref (ad (41, 0, 0, 0))), (6, .ref (ad (42, 0, 0, 0))), (7, .ref (ad (40, 0, 0, 0))), (8, .ref (ad (45, 0, 0, 0))), (9, .int (nI d)), (10, .int (nI fd))])
    (kk : ∀ (H1 : Heap) (locs1 : List Loc) (ls1 : Array Slot), Sx D A ad Ks (lay tc ad gm dz (LL Z)) s H1 locs1 → lv_has ls1 21 [(14, .int (nI stt)), (13, .int (nI k)), (12, .int (bI true)), (11, .int (nI cl)), (0, .ref (ad (0, 0, 0, 0))), (1, .ref (ad (35, 0, 0, 0))), (2, .ref (ad (37, 0, 0, 0))), (3, .ref (ad (43, 0, 0, 0))), (4, .ref (ad (44, 0, 0, 0))), (5, .ref (ad (41, 0, 0, 0))), (6, .ref (ad (42, 0, 0, 0))), (7, .ref (ad (40, 0, 0, 0))), (8, .ref (ad (45, 0, 0, 0))), (9, .int (nI d)), (10, .int (nI fd))] → W p l e R s mth args below meth c H1 locs1 cells slots Q (F0 mth 423 ls1 [])) : W p l e R s mth args below meth c H locs cells slots Q (F0 mth 138 ls []) := by
  have hok := hS.2.1
  have hn2 := hS.2.2.1
  have hm10 := hS.2.2.2
  have hN := nr_of hS.1.1
  have ht9 : t ≤ 2000 := by have := hS.1.2.2.2.2.2.2.2.2.2.1; omega
  have hBK := lb_bk (G := Z) hS.1 (fun _ _ => rfl)
  have hR9 := lb_rel0 (G := Z) hS.1.1 (fun _ _ => rfl)
  have hC := hR9.cp k d (by omega) hd
  obtain ⟨hx, hb, hmaxL, hown, hts⟩ := id X.1
  refine lv_iload hx hb dL_isDevice_138 (lv_at hl 0 rfl) ?_
  refine lv_iconst (v := nI 4) hx hb dL_isDevice_140 (by decide) ?_
  refine lv_icmp_ge (tgt := 423) hx hb dL_isDevice_141 (by decide) (fun _ => ?_) (fun c => absurd c (by decide))
  exact kk H locs ls h (lv_sub hl [1, 2, 3, 4, 5, 6, 7, 8, 9, 10, 11, 12, 13, 14, 15] rfl)

set_option maxHeartbeats 4000000 in
set_option maxRecDepth 100000 in
theorem dv_fz (X : Cx p s mth args meth c cL_isDevice yL_isDevice.cls 21 D tc dz A) (hR1 : 13 ≤ R.frames) (hR2 : 410 ≤ R.locals) (hcR : cells + 0 ≤ R.cells) (hsR : slots + 0 ≤ R.slots) (hL : LV gm Ks) (hst : l.stackTraces = false) (hW : LW gm Ks) (hG2 : GM2 gm) (Z : Mem) (V : Nat → BS) (acts : Nat → Act) (z n m t : Nat) (ac mcs : Nat → Nat) (cn : Nat) (hS : LWS Z gm V acts z n m t ac mcs cn) (hcn : cn < 59) (d k fd cl : Nat) (hd : d < 6) (hk : k < n) (h : Sx D A ad Ks (lay tc ad gm dz (LL Z)) s H locs) (hl : lv_has ls 21 [(15, .int (nI 0)), (14, .int (nI 0)), (13, .int (nI k)), (12, .int (bI true)), (11, .int (nI cl)), (0, .ref (ad (0, 0, 0, 0))), (1, .ref (ad (35, 0, 0, 0))), (2, .ref (ad (37, 0, 0, 0))), (3, .ref (ad (43, 0, 0, 0))), (4, .ref (ad (44, 0, 0, 0))), (5, .ref (ad (41, 0, 0, 0))), (6, .ref (ad (42, 0, 0, 0))), (7, .ref (ad (40, 0, 0, 0))), (8, .ref (ad (45, 0, 0, 0))), (9, .int (nI d)), (10, .int (nI fd))])
    (kk : ∀ (H1 : Heap) (locs1 : List Loc) (ls1 : Array Slot), Sx D A ad Ks (lay tc ad gm dz (LL Z)) s H1 locs1 → lv_has ls1 21 [(14, .int (nI 0)), (13, .int (nI k)), (12, .int (bI true)), (11, .int (nI cl)), (0, .ref (ad (0, 0, 0, 0))), (1, .ref (ad (35, 0, 0, 0))), (2, .ref (ad (37, 0, 0, 0))), (3, .ref (ad (43, 0, 0, 0))), (4, .ref (ad (44, 0, 0, 0))), (5, .ref (ad (41, 0, 0, 0))), (6, .ref (ad (42, 0, 0, 0))), (7, .ref (ad (40, 0, 0, 0))), (8, .ref (ad (45, 0, 0, 0))), (9, .int (nI d)), (10, .int (nI fd))] → W p l e R s mth args below meth c H1 locs1 cells slots Q (F0 mth 423 ls1 [])) : W p l e R s mth args below meth c H locs cells slots Q (F0 mth 138 ls []) := by
  have hok := hS.2.1
  have hn2 := hS.2.2.1
  have hm10 := hS.2.2.2
  have hN := nr_of hS.1.1
  have ht9 : t ≤ 2000 := by have := hS.1.2.2.2.2.2.2.2.2.2.1; omega
  have hBK := lb_bk (G := Z) hS.1 (fun _ _ => rfl)
  have hR9 := lb_rel0 (G := Z) hS.1.1 (fun _ _ => rfl)
  have hC := hR9.cp k d (by omega) hd
  obtain ⟨hx, hb, hmaxL, hown, hts⟩ := id X.1
  refine lv_iload hx hb dL_isDevice_138 (lv_at hl 0 rfl) ?_
  refine lv_iconst (v := nI 4) hx hb dL_isDevice_140 (by decide) ?_
  refine lv_icmp_ge (tgt := 423) hx hb dL_isDevice_141 (by decide) (fun c => absurd c (by decide)) (fun _ => ?_)
  refine lv_iload hx hb dL_isDevice_144 (lv_at hl 3 rfl) ?_
  refine b_if_eq (tgt := 423) hx hb dL_isDevice_146 (by decide) (fun c => (Bool.noConfusion c)) (fun _ => ?_)
  refine lv_iload hx hb dL_isDevice_149 (lv_at hl 1 rfl) ?_
  refine lv_if_le (tgt := 423) hx hb dL_isDevice_151 (by decide) (fun _ => ?_) (fun c => absurd c (by decide))
  exact kk H locs ls h (lv_sub hl [1, 2, 3, 4, 5, 6, 7, 8, 9, 10, 11, 12, 13, 14, 15] rfl)

set_option maxHeartbeats 4000000 in
set_option maxRecDepth 100000 in
theorem dv_m1 (X : Cx p s mth args meth c cL_isDevice yL_isDevice.cls 21 D tc dz A) (hR1 : 13 ≤ R.frames) (hR2 : 410 ≤ R.locals) (hcR : cells + 0 ≤ R.cells) (hsR : slots + 0 ≤ R.slots) (hL : LV gm Ks) (hst : l.stackTraces = false) (hW : LW gm Ks) (hG2 : GM2 gm) (Z : Mem) (V : Nat → BS) (acts : Nat → Act) (z n m t : Nat) (ac mcs : Nat → Nat) (cn : Nat) (hS : LWS Z gm V acts z n m t ac mcs cn) (hcn : cn < 59) (d k fd cl : Nat) (hd : d < 6) (hk : k < n) (stt : Nat) (hs4 : stt ≤ 3) (h : Sx D A ad Ks (lay tc ad gm dz (LL Z)) s H locs) (hl : lv_has ls 21 [(14, .int (nI stt)), (13, .int (nI k)), (12, .int (bI true)), (11, .int (nI cl)), (0, .ref (ad (0, 0, 0, 0))), (1, .ref (ad (35, 0, 0, 0))), (2, .ref (ad (37, 0, 0, 0))), (3, .ref (ad (43, 0, 0, 0))), (4, .ref (ad (44, 0, 0, 0))), (5, .ref (ad (41, 0, 0, 0))), (6, .ref (ad (42, 0, 0, 0))), (7, .ref (ad (40, 0, 0, 0))), (8, .ref (ad (45, 0, 0, 0))), (9, .int (nI d)), (10, .int (nI fd))])
    (kk : ∀ (H1 : Heap) (locs1 : List Loc) (ls1 : Array Slot), Sx D A ad Ks (lay tc ad gm dz (LL Z)) s H1 locs1 → lv_has ls1 21 [(16, .int (lasI Z d k m)), (15, .int (nI (agN Z d k m))), (14, .int (nI stt)), (13, .int (nI k)), (12, .int (bI true)), (11, .int (nI cl)), (0, .ref (ad (0, 0, 0, 0))), (1, .ref (ad (35, 0, 0, 0))), (2, .ref (ad (37, 0, 0, 0))), (3, .ref (ad (43, 0, 0, 0))), (4, .ref (ad (44, 0, 0, 0))), (5, .ref (ad (41, 0, 0, 0))), (6, .ref (ad (42, 0, 0, 0))), (7, .ref (ad (40, 0, 0, 0))), (8, .ref (ad (45, 0, 0, 0))), (9, .int (nI d)), (10, .int (nI fd))] → W p l e R s mth args below meth c H1 locs1 cells slots Q (F0 mth 505 ls1 [])) : W p l e R s mth args below meth c H locs cells slots Q (F0 mth 423 ls []) := by
  have hok := hS.2.1
  have hn2 := hS.2.2.1
  have hm10 := hS.2.2.2
  have hN := nr_of hS.1.1
  have ht9 : t ≤ 2000 := by have := hS.1.2.2.2.2.2.2.2.2.2.1; omega
  have hBK := lb_bk (G := Z) hS.1 (fun _ _ => rfl)
  have hR9 := lb_rel0 (G := Z) hS.1.1 (fun _ _ => rfl)
  have hC := hR9.cp k d (by omega) hd
  obtain ⟨hx, hb, hmaxL, hown, hts⟩ := id X.1
  refine lv_iconst (v := nI 0) hx hb dL_isDevice_423 (by decide) ?_
  refine lv_istore (lv' := [(15, .int (nI 0)), (14, .int (nI stt)), (13, .int (nI k)), (12, .int (bI true)), (11, .int (nI cl)), (0, .ref (ad (0, 0, 0, 0))), (1, .ref (ad (35, 0, 0, 0))), (2, .ref (ad (37, 0, 0, 0))), (3, .ref (ad (43, 0, 0, 0))), (4, .ref (ad (44, 0, 0, 0))), (5, .ref (ad (41, 0, 0, 0))), (6, .ref (ad (42, 0, 0, 0))), (7, .ref (ad (40, 0, 0, 0))), (8, .ref (ad (45, 0, 0, 0))), (9, .int (nI d)), (10, .int (nI fd))]) hx hb dL_isDevice_424 hl (by decide) rfl (fun ls hl => ?_)
  refine lv_iconst (v := nI 0) hx hb dL_isDevice_426 (by decide) ?_
  refine lv_istore (lv' := [(16, .int (nI 0)), (15, .int (nI 0)), (14, .int (nI stt)), (13, .int (nI k)), (12, .int (bI true)), (11, .int (nI cl)), (0, .ref (ad (0, 0, 0, 0))), (1, .ref (ad (35, 0, 0, 0))), (2, .ref (ad (37, 0, 0, 0))), (3, .ref (ad (43, 0, 0, 0))), (4, .ref (ad (44, 0, 0, 0))), (5, .ref (ad (41, 0, 0, 0))), (6, .ref (ad (42, 0, 0, 0))), (7, .ref (ad (40, 0, 0, 0))), (8, .ref (ad (45, 0, 0, 0))), (9, .int (nI d)), (10, .int (nI fd))]) hx hb dL_isDevice_427 hl (by decide) rfl (fun ls hl => ?_)
  refine lv_iconst (v := nI 0) hx hb dL_isDevice_429 (by decide) ?_
  refine lv_istore (lv' := [(17, .int (nI 0)), (16, .int (nI 0)), (15, .int (nI 0)), (14, .int (nI stt)), (13, .int (nI k)), (12, .int (bI true)), (11, .int (nI cl)), (0, .ref (ad (0, 0, 0, 0))), (1, .ref (ad (35, 0, 0, 0))), (2, .ref (ad (37, 0, 0, 0))), (3, .ref (ad (43, 0, 0, 0))), (4, .ref (ad (44, 0, 0, 0))), (5, .ref (ad (41, 0, 0, 0))), (6, .ref (ad (42, 0, 0, 0))), (7, .ref (ad (40, 0, 0, 0))), (8, .ref (ad (45, 0, 0, 0))), (9, .int (nI d)), (10, .int (nI fd))]) hx hb dL_isDevice_430 hl (by decide) rfl (fun ls hl => ?_)
  refine y_loop (D := D) (A := A) (ad := ad) (Ks := Ks) (nL := 21) (fun j : Nat => lay tc ad gm dz (LL Z)) (fun j => [(17, .int (nI j)), (16, .int (lasI Z d k j)), (15, .int (nI (agN Z d k j))), (14, .int (nI stt)), (13, .int (nI k)), (12, .int (bI true)), (11, .int (nI cl)), (0, .ref (ad (0, 0, 0, 0))), (1, .ref (ad (35, 0, 0, 0))), (2, .ref (ad (37, 0, 0, 0))), (3, .ref (ad (43, 0, 0, 0))), (4, .ref (ad (44, 0, 0, 0))), (5, .ref (ad (41, 0, 0, 0))), (6, .ref (ad (42, 0, 0, 0))), (7, .ref (ad (40, 0, 0, 0))), (8, .ref (ad (45, 0, 0, 0))), (9, .int (nI d)), (10, .int (nI fd))]) (fun _ => []) (fun j : Nat => j ≤ m) (fun j => m - j) (fun j hi432 ih432 H locs ls h hl => ?_) 0 (Nat.zero_le _) (h.eq (congrArg (lay tc ad gm dz) rfl)) (lv_sub hl [0, 1, 2, 3, 4, 5, 6, 7, 8, 9, 10, 11, 12, 13, 14, 15, 16, 17] rfl) rfl
  have h : Sx D A ad Ks (lay tc ad gm dz (LL Z)) s H locs := h
  have hl : lv_has ls 21 [(17, .int (nI j)), (16, .int (lasI Z d k j)), (15, .int (nI (agN Z d k j))), (14, .int (nI stt)), (13, .int (nI k)), (12, .int (bI true)), (11, .int (nI cl)), (0, .ref (ad (0, 0, 0, 0))), (1, .ref (ad (35, 0, 0, 0))), (2, .ref (ad (37, 0, 0, 0))), (3, .ref (ad (43, 0, 0, 0))), (4, .ref (ad (44, 0, 0, 0))), (5, .ref (ad (41, 0, 0, 0))), (6, .ref (ad (42, 0, 0, 0))), (7, .ref (ad (40, 0, 0, 0))), (8, .ref (ad (45, 0, 0, 0))), (9, .int (nI d)), (10, .int (nI fd))] := hl
  refine lv_iload hx hb dL_isDevice_432 (lv_at hl 0 rfl) ?_
  refine lv_aload hx hb dL_isDevice_434 (lv_at hl 15 rfl) ?_
  refine lv_iconst (v := nI 2) hx hb dL_isDevice_436 (by decide) ?_
  refine y_ald X h (fun _ => rfl) (by decide) (hL (45, 0, 0, 0) ⟨by decide, rfl, rfl, rfl⟩) (by omega) (v := nI m) (gc_2.trans hN.2.2) dL_isDevice_437 ?_
  refine n_icmp_ge (tgt := 505) hx hb (by omega) (by omega) dL_isDevice_438 (by decide) (fun c_438 => ?_) (fun c_438 => ?_)
  · skip
    have him : j = m := by omega
    rw [him] at hl
    exact kk H locs ls h (lv_sub hl [1, 2, 3, 4, 5, 6, 7, 8, 9, 10, 11, 12, 13, 14, 15, 16, 17] rfl)
  · skip
    refine lv_aload hx hb dL_isDevice_441 (lv_at hl 14 rfl) ?_
    refine lv_iload hx hb dL_isDevice_443 (lv_at hl 0 rfl) ?_
    refine y_ald X h (fun _ => rfl) (by decide) (hL (40, 0, 0, 0) ⟨by decide, rfl, rfl, rfl⟩) (by omega) (v := Z (40, 0, 0, 0) j) (congrFun (LL_see (by decide)) _) dL_isDevice_445 ?_
    refine lv_iload hx hb dL_isDevice_446 (lv_at hl 4 rfl) ?_
    refine lv_icmp_ne (tgt := 465) hx hb dL_isDevice_448 (by decide) (fun c_448 => ?_) (fun c_448 => ?_)
    · skip
      have hsn : nI 0 = snc Z d k j := (snc_n c_448).symm
      refine lv_iconst (v := nI 0) hx hb dL_isDevice_465 (by decide) ?_
      rw [hsn]
      refine lv_istore (lv' := [(18, .int (snc Z d k j)), (17, .int (nI j)), (16, .int (lasI Z d k j)), (15, .int (nI (agN Z d k j))), (14, .int (nI stt)), (13, .int (nI k)), (12, .int (bI true)), (11, .int (nI cl)), (0, .ref (ad (0, 0, 0, 0))), (1, .ref (ad (35, 0, 0, 0))), (2, .ref (ad (37, 0, 0, 0))), (3, .ref (ad (43, 0, 0, 0))), (4, .ref (ad (44, 0, 0, 0))), (5, .ref (ad (41, 0, 0, 0))), (6, .ref (ad (42, 0, 0, 0))), (7, .ref (ad (40, 0, 0, 0))), (8, .ref (ad (45, 0, 0, 0))), (9, .int (nI d)), (10, .int (nI fd))]) hx hb dL_isDevice_466 hl (by decide) rfl (fun ls hl => ?_)
      refine lv_iload hx hb dL_isDevice_468 (lv_at hl 3 rfl) ?_
      refine lv_iload hx hb dL_isDevice_470 (lv_at hl 0 rfl) ?_
      refine lv_if_le (tgt := 479) hx hb dL_isDevice_472 (by decide) (fun c_472 => ?_) (fun c_472 => ?_)
      · skip
        have hcn : agN Z d k j + 0 = agN Z d k (j + 1) := (cntN_n (p := fun k9 => mo Z k k9 && kmk Z d k9) (snc_b.trans (decide_eq_false (le_not_lt c_472)))).symm
        refine lv_iconst (v := nI 0) hx hb dL_isDevice_479 (by decide) ?_
        refine n_iadd hx hb dL_isDevice_480 ?_
        rw [hcn]
        refine lv_istore (lv' := [(15, .int (nI (agN Z d k (j + 1)))), (18, .int (snc Z d k j)), (17, .int (nI j)), (16, .int (lasI Z d k j)), (14, .int (nI stt)), (13, .int (nI k)), (12, .int (bI true)), (11, .int (nI cl)), (0, .ref (ad (0, 0, 0, 0))), (1, .ref (ad (35, 0, 0, 0))), (2, .ref (ad (37, 0, 0, 0))), (3, .ref (ad (43, 0, 0, 0))), (4, .ref (ad (44, 0, 0, 0))), (5, .ref (ad (41, 0, 0, 0))), (6, .ref (ad (42, 0, 0, 0))), (7, .ref (ad (40, 0, 0, 0))), (8, .ref (ad (45, 0, 0, 0))), (9, .int (nI d)), (10, .int (nI fd))]) hx hb dL_isDevice_481 hl (by decide) rfl (fun ls hl => ?_)
        refine lv_iload hx hb dL_isDevice_483 (lv_at hl 1 rfl) ?_
        refine lv_iload hx hb dL_isDevice_485 (lv_at hl 3 rfl) ?_
        refine lv_icmp_le (tgt := 495) hx hb dL_isDevice_487 (by decide) (fun c_487 => ?_) (fun c_487 => ?_)
        · skip
          have hla : lasI Z d k j = lasI Z d k (j + 1) := las_le hok.tr c_487
          refine lv_iload hx hb dL_isDevice_495 (lv_at hl 3 rfl) ?_
          rw [hla]
          refine lv_istore (lv' := [(16, .int (lasI Z d k (j + 1))), (15, .int (nI (agN Z d k (j + 1)))), (18, .int (snc Z d k j)), (17, .int (nI j)), (14, .int (nI stt)), (13, .int (nI k)), (12, .int (bI true)), (11, .int (nI cl)), (0, .ref (ad (0, 0, 0, 0))), (1, .ref (ad (35, 0, 0, 0))), (2, .ref (ad (37, 0, 0, 0))), (3, .ref (ad (43, 0, 0, 0))), (4, .ref (ad (44, 0, 0, 0))), (5, .ref (ad (41, 0, 0, 0))), (6, .ref (ad (42, 0, 0, 0))), (7, .ref (ad (40, 0, 0, 0))), (8, .ref (ad (45, 0, 0, 0))), (9, .int (nI d)), (10, .int (nI fd))]) hx hb dL_isDevice_497 hl (by decide) rfl (fun ls hl => ?_)
          refine n_iinc (j := j) (n := 1) (lv' := [(17, .int (nI (j + 1))), (16, .int (lasI Z d k (j + 1))), (15, .int (nI (agN Z d k (j + 1)))), (18, .int (snc Z d k j)), (14, .int (nI stt)), (13, .int (nI k)), (12, .int (bI true)), (11, .int (nI cl)), (0, .ref (ad (0, 0, 0, 0))), (1, .ref (ad (35, 0, 0, 0))), (2, .ref (ad (37, 0, 0, 0))), (3, .ref (ad (43, 0, 0, 0))), (4, .ref (ad (44, 0, 0, 0))), (5, .ref (ad (41, 0, 0, 0))), (6, .ref (ad (42, 0, 0, 0))), (7, .ref (ad (40, 0, 0, 0))), (8, .ref (ad (45, 0, 0, 0))), (9, .int (nI d)), (10, .int (nI fd))]) hx hb dL_isDevice_499 hl (k := 3) rfl (by decide) (by decide) rfl (fun ls hl => ?_)
          refine lv_goto (tgt := 432) hx hb dL_isDevice_502 (by decide) ?_
          exact ih432 (j + 1) (by omega) (by omega) H locs ls (h.eq (congrArg (lay tc ad gm dz) rfl)) (lv_sub hl [0, 1, 2, 4, 5, 6, 7, 8, 9, 10, 11, 12, 13, 14, 15, 16, 17, 18] rfl)
        · skip
          have hla : snc Z d k j = lasI Z d k (j + 1) := las_gt hok.tr c_487
          refine lv_iload hx hb dL_isDevice_490 (lv_at hl 1 rfl) ?_
          refine lv_goto (tgt := 497) hx hb dL_isDevice_492 (by decide) ?_
          rw [hla]
          refine lv_istore (lv' := [(16, .int (lasI Z d k (j + 1))), (15, .int (nI (agN Z d k (j + 1)))), (18, .int (snc Z d k j)), (17, .int (nI j)), (14, .int (nI stt)), (13, .int (nI k)), (12, .int (bI true)), (11, .int (nI cl)), (0, .ref (ad (0, 0, 0, 0))), (1, .ref (ad (35, 0, 0, 0))), (2, .ref (ad (37, 0, 0, 0))), (3, .ref (ad (43, 0, 0, 0))), (4, .ref (ad (44, 0, 0, 0))), (5, .ref (ad (41, 0, 0, 0))), (6, .ref (ad (42, 0, 0, 0))), (7, .ref (ad (40, 0, 0, 0))), (8, .ref (ad (45, 0, 0, 0))), (9, .int (nI d)), (10, .int (nI fd))]) hx hb dL_isDevice_497 hl (by decide) rfl (fun ls hl => ?_)
          refine n_iinc (j := j) (n := 1) (lv' := [(17, .int (nI (j + 1))), (16, .int (lasI Z d k (j + 1))), (15, .int (nI (agN Z d k (j + 1)))), (18, .int (snc Z d k j)), (14, .int (nI stt)), (13, .int (nI k)), (12, .int (bI true)), (11, .int (nI cl)), (0, .ref (ad (0, 0, 0, 0))), (1, .ref (ad (35, 0, 0, 0))), (2, .ref (ad (37, 0, 0, 0))), (3, .ref (ad (43, 0, 0, 0))), (4, .ref (ad (44, 0, 0, 0))), (5, .ref (ad (41, 0, 0, 0))), (6, .ref (ad (42, 0, 0, 0))), (7, .ref (ad (40, 0, 0, 0))), (8, .ref (ad (45, 0, 0, 0))), (9, .int (nI d)), (10, .int (nI fd))]) hx hb dL_isDevice_499 hl (k := 3) rfl (by decide) (by decide) rfl (fun ls hl => ?_)
          refine lv_goto (tgt := 432) hx hb dL_isDevice_502 (by decide) ?_
          exact ih432 (j + 1) (by omega) (by omega) H locs ls (h.eq (congrArg (lay tc ad gm dz) rfl)) (lv_sub hl [0, 1, 2, 4, 5, 6, 7, 8, 9, 10, 11, 12, 13, 14, 15, 16, 17, 18] rfl)
      · skip
        have hcn : agN Z d k j + 1 = agN Z d k (j + 1) := (cntN_y (p := fun k9 => mo Z k k9 && kmk Z d k9) (snc_b.trans (decide_eq_true (not_le_lt c_472)))).symm
        refine lv_iconst (v := nI 1) hx hb dL_isDevice_475 (by decide) ?_
        refine lv_goto (tgt := 480) hx hb dL_isDevice_476 (by decide) ?_
        refine n_iadd hx hb dL_isDevice_480 ?_
        rw [hcn]
        refine lv_istore (lv' := [(15, .int (nI (agN Z d k (j + 1)))), (18, .int (snc Z d k j)), (17, .int (nI j)), (16, .int (lasI Z d k j)), (14, .int (nI stt)), (13, .int (nI k)), (12, .int (bI true)), (11, .int (nI cl)), (0, .ref (ad (0, 0, 0, 0))), (1, .ref (ad (35, 0, 0, 0))), (2, .ref (ad (37, 0, 0, 0))), (3, .ref (ad (43, 0, 0, 0))), (4, .ref (ad (44, 0, 0, 0))), (5, .ref (ad (41, 0, 0, 0))), (6, .ref (ad (42, 0, 0, 0))), (7, .ref (ad (40, 0, 0, 0))), (8, .ref (ad (45, 0, 0, 0))), (9, .int (nI d)), (10, .int (nI fd))]) hx hb dL_isDevice_481 hl (by decide) rfl (fun ls hl => ?_)
        refine lv_iload hx hb dL_isDevice_483 (lv_at hl 1 rfl) ?_
        refine lv_iload hx hb dL_isDevice_485 (lv_at hl 3 rfl) ?_
        refine lv_icmp_le (tgt := 495) hx hb dL_isDevice_487 (by decide) (fun c_487 => ?_) (fun c_487 => ?_)
        · skip
          have hla : lasI Z d k j = lasI Z d k (j + 1) := las_le hok.tr c_487
          refine lv_iload hx hb dL_isDevice_495 (lv_at hl 3 rfl) ?_
          rw [hla]
          refine lv_istore (lv' := [(16, .int (lasI Z d k (j + 1))), (15, .int (nI (agN Z d k (j + 1)))), (18, .int (snc Z d k j)), (17, .int (nI j)), (14, .int (nI stt)), (13, .int (nI k)), (12, .int (bI true)), (11, .int (nI cl)), (0, .ref (ad (0, 0, 0, 0))), (1, .ref (ad (35, 0, 0, 0))), (2, .ref (ad (37, 0, 0, 0))), (3, .ref (ad (43, 0, 0, 0))), (4, .ref (ad (44, 0, 0, 0))), (5, .ref (ad (41, 0, 0, 0))), (6, .ref (ad (42, 0, 0, 0))), (7, .ref (ad (40, 0, 0, 0))), (8, .ref (ad (45, 0, 0, 0))), (9, .int (nI d)), (10, .int (nI fd))]) hx hb dL_isDevice_497 hl (by decide) rfl (fun ls hl => ?_)
          refine n_iinc (j := j) (n := 1) (lv' := [(17, .int (nI (j + 1))), (16, .int (lasI Z d k (j + 1))), (15, .int (nI (agN Z d k (j + 1)))), (18, .int (snc Z d k j)), (14, .int (nI stt)), (13, .int (nI k)), (12, .int (bI true)), (11, .int (nI cl)), (0, .ref (ad (0, 0, 0, 0))), (1, .ref (ad (35, 0, 0, 0))), (2, .ref (ad (37, 0, 0, 0))), (3, .ref (ad (43, 0, 0, 0))), (4, .ref (ad (44, 0, 0, 0))), (5, .ref (ad (41, 0, 0, 0))), (6, .ref (ad (42, 0, 0, 0))), (7, .ref (ad (40, 0, 0, 0))), (8, .ref (ad (45, 0, 0, 0))), (9, .int (nI d)), (10, .int (nI fd))]) hx hb dL_isDevice_499 hl (k := 3) rfl (by decide) (by decide) rfl (fun ls hl => ?_)
          refine lv_goto (tgt := 432) hx hb dL_isDevice_502 (by decide) ?_
          exact ih432 (j + 1) (by omega) (by omega) H locs ls (h.eq (congrArg (lay tc ad gm dz) rfl)) (lv_sub hl [0, 1, 2, 4, 5, 6, 7, 8, 9, 10, 11, 12, 13, 14, 15, 16, 17, 18] rfl)
        · skip
          have hla : snc Z d k j = lasI Z d k (j + 1) := las_gt hok.tr c_487
          refine lv_iload hx hb dL_isDevice_490 (lv_at hl 1 rfl) ?_
          refine lv_goto (tgt := 497) hx hb dL_isDevice_492 (by decide) ?_
          rw [hla]
          refine lv_istore (lv' := [(16, .int (lasI Z d k (j + 1))), (15, .int (nI (agN Z d k (j + 1)))), (18, .int (snc Z d k j)), (17, .int (nI j)), (14, .int (nI stt)), (13, .int (nI k)), (12, .int (bI true)), (11, .int (nI cl)), (0, .ref (ad (0, 0, 0, 0))), (1, .ref (ad (35, 0, 0, 0))), (2, .ref (ad (37, 0, 0, 0))), (3, .ref (ad (43, 0, 0, 0))), (4, .ref (ad (44, 0, 0, 0))), (5, .ref (ad (41, 0, 0, 0))), (6, .ref (ad (42, 0, 0, 0))), (7, .ref (ad (40, 0, 0, 0))), (8, .ref (ad (45, 0, 0, 0))), (9, .int (nI d)), (10, .int (nI fd))]) hx hb dL_isDevice_497 hl (by decide) rfl (fun ls hl => ?_)
          refine n_iinc (j := j) (n := 1) (lv' := [(17, .int (nI (j + 1))), (16, .int (lasI Z d k (j + 1))), (15, .int (nI (agN Z d k (j + 1)))), (18, .int (snc Z d k j)), (14, .int (nI stt)), (13, .int (nI k)), (12, .int (bI true)), (11, .int (nI cl)), (0, .ref (ad (0, 0, 0, 0))), (1, .ref (ad (35, 0, 0, 0))), (2, .ref (ad (37, 0, 0, 0))), (3, .ref (ad (43, 0, 0, 0))), (4, .ref (ad (44, 0, 0, 0))), (5, .ref (ad (41, 0, 0, 0))), (6, .ref (ad (42, 0, 0, 0))), (7, .ref (ad (40, 0, 0, 0))), (8, .ref (ad (45, 0, 0, 0))), (9, .int (nI d)), (10, .int (nI fd))]) hx hb dL_isDevice_499 hl (k := 3) rfl (by decide) (by decide) rfl (fun ls hl => ?_)
          refine lv_goto (tgt := 432) hx hb dL_isDevice_502 (by decide) ?_
          exact ih432 (j + 1) (by omega) (by omega) H locs ls (h.eq (congrArg (lay tc ad gm dz) rfl)) (lv_sub hl [0, 1, 2, 4, 5, 6, 7, 8, 9, 10, 11, 12, 13, 14, 15, 16, 17, 18] rfl)
    · skip
      have hsn : Z (42, 0, 0, 0) (6 * j + d) = snc Z d k j := (snc_y c_448).symm
      refine lv_aload hx hb dL_isDevice_451 (lv_at hl 13 rfl) ?_
      refine lv_bipush (v := nI 6) hx hb dL_isDevice_453 (by decide) ?_
      refine lv_iload hx hb dL_isDevice_455 (lv_at hl 0 rfl) ?_
      refine n_imul hx hb dL_isDevice_457 ?_
      refine lv_iload hx hb dL_isDevice_458 (lv_at hl 16 rfl) ?_
      refine n_iadd hx hb dL_isDevice_460 ?_
      refine y_ald X h (fun _ => rfl) (by decide) (hL (42, 0, 0, 0) ⟨by decide, rfl, rfl, rfl⟩) (by omega) (v := Z (42, 0, 0, 0) ((6 * j) + d)) (congrFun (LL_see (by decide)) _) dL_isDevice_461 ?_
      refine lv_goto (tgt := 466) hx hb dL_isDevice_462 (by decide) ?_
      rw [hsn]
      refine lv_istore (lv' := [(18, .int (snc Z d k j)), (17, .int (nI j)), (16, .int (lasI Z d k j)), (15, .int (nI (agN Z d k j))), (14, .int (nI stt)), (13, .int (nI k)), (12, .int (bI true)), (11, .int (nI cl)), (0, .ref (ad (0, 0, 0, 0))), (1, .ref (ad (35, 0, 0, 0))), (2, .ref (ad (37, 0, 0, 0))), (3, .ref (ad (43, 0, 0, 0))), (4, .ref (ad (44, 0, 0, 0))), (5, .ref (ad (41, 0, 0, 0))), (6, .ref (ad (42, 0, 0, 0))), (7, .ref (ad (40, 0, 0, 0))), (8, .ref (ad (45, 0, 0, 0))), (9, .int (nI d)), (10, .int (nI fd))]) hx hb dL_isDevice_466 hl (by decide) rfl (fun ls hl => ?_)
      refine lv_iload hx hb dL_isDevice_468 (lv_at hl 3 rfl) ?_
      refine lv_iload hx hb dL_isDevice_470 (lv_at hl 0 rfl) ?_
      refine lv_if_le (tgt := 479) hx hb dL_isDevice_472 (by decide) (fun c_472 => ?_) (fun c_472 => ?_)
      · skip
        have hcn : agN Z d k j + 0 = agN Z d k (j + 1) := (cntN_n (p := fun k9 => mo Z k k9 && kmk Z d k9) (snc_b.trans (decide_eq_false (le_not_lt c_472)))).symm
        refine lv_iconst (v := nI 0) hx hb dL_isDevice_479 (by decide) ?_
        refine n_iadd hx hb dL_isDevice_480 ?_
        rw [hcn]
        refine lv_istore (lv' := [(15, .int (nI (agN Z d k (j + 1)))), (18, .int (snc Z d k j)), (17, .int (nI j)), (16, .int (lasI Z d k j)), (14, .int (nI stt)), (13, .int (nI k)), (12, .int (bI true)), (11, .int (nI cl)), (0, .ref (ad (0, 0, 0, 0))), (1, .ref (ad (35, 0, 0, 0))), (2, .ref (ad (37, 0, 0, 0))), (3, .ref (ad (43, 0, 0, 0))), (4, .ref (ad (44, 0, 0, 0))), (5, .ref (ad (41, 0, 0, 0))), (6, .ref (ad (42, 0, 0, 0))), (7, .ref (ad (40, 0, 0, 0))), (8, .ref (ad (45, 0, 0, 0))), (9, .int (nI d)), (10, .int (nI fd))]) hx hb dL_isDevice_481 hl (by decide) rfl (fun ls hl => ?_)
        refine lv_iload hx hb dL_isDevice_483 (lv_at hl 1 rfl) ?_
        refine lv_iload hx hb dL_isDevice_485 (lv_at hl 3 rfl) ?_
        refine lv_icmp_le (tgt := 495) hx hb dL_isDevice_487 (by decide) (fun c_487 => ?_) (fun c_487 => ?_)
        · skip
          have hla : lasI Z d k j = lasI Z d k (j + 1) := las_le hok.tr c_487
          refine lv_iload hx hb dL_isDevice_495 (lv_at hl 3 rfl) ?_
          rw [hla]
          refine lv_istore (lv' := [(16, .int (lasI Z d k (j + 1))), (15, .int (nI (agN Z d k (j + 1)))), (18, .int (snc Z d k j)), (17, .int (nI j)), (14, .int (nI stt)), (13, .int (nI k)), (12, .int (bI true)), (11, .int (nI cl)), (0, .ref (ad (0, 0, 0, 0))), (1, .ref (ad (35, 0, 0, 0))), (2, .ref (ad (37, 0, 0, 0))), (3, .ref (ad (43, 0, 0, 0))), (4, .ref (ad (44, 0, 0, 0))), (5, .ref (ad (41, 0, 0, 0))), (6, .ref (ad (42, 0, 0, 0))), (7, .ref (ad (40, 0, 0, 0))), (8, .ref (ad (45, 0, 0, 0))), (9, .int (nI d)), (10, .int (nI fd))]) hx hb dL_isDevice_497 hl (by decide) rfl (fun ls hl => ?_)
          refine n_iinc (j := j) (n := 1) (lv' := [(17, .int (nI (j + 1))), (16, .int (lasI Z d k (j + 1))), (15, .int (nI (agN Z d k (j + 1)))), (18, .int (snc Z d k j)), (14, .int (nI stt)), (13, .int (nI k)), (12, .int (bI true)), (11, .int (nI cl)), (0, .ref (ad (0, 0, 0, 0))), (1, .ref (ad (35, 0, 0, 0))), (2, .ref (ad (37, 0, 0, 0))), (3, .ref (ad (43, 0, 0, 0))), (4, .ref (ad (44, 0, 0, 0))), (5, .ref (ad (41, 0, 0, 0))), (6, .ref (ad (42, 0, 0, 0))), (7, .ref (ad (40, 0, 0, 0))), (8, .ref (ad (45, 0, 0, 0))), (9, .int (nI d)), (10, .int (nI fd))]) hx hb dL_isDevice_499 hl (k := 3) rfl (by decide) (by decide) rfl (fun ls hl => ?_)
          refine lv_goto (tgt := 432) hx hb dL_isDevice_502 (by decide) ?_
          exact ih432 (j + 1) (by omega) (by omega) H locs ls (h.eq (congrArg (lay tc ad gm dz) rfl)) (lv_sub hl [0, 1, 2, 4, 5, 6, 7, 8, 9, 10, 11, 12, 13, 14, 15, 16, 17, 18] rfl)
        · skip
          have hla : snc Z d k j = lasI Z d k (j + 1) := las_gt hok.tr c_487
          refine lv_iload hx hb dL_isDevice_490 (lv_at hl 1 rfl) ?_
          refine lv_goto (tgt := 497) hx hb dL_isDevice_492 (by decide) ?_
          rw [hla]
          refine lv_istore (lv' := [(16, .int (lasI Z d k (j + 1))), (15, .int (nI (agN Z d k (j + 1)))), (18, .int (snc Z d k j)), (17, .int (nI j)), (14, .int (nI stt)), (13, .int (nI k)), (12, .int (bI true)), (11, .int (nI cl)), (0, .ref (ad (0, 0, 0, 0))), (1, .ref (ad (35, 0, 0, 0))), (2, .ref (ad (37, 0, 0, 0))), (3, .ref (ad (43, 0, 0, 0))), (4, .ref (ad (44, 0, 0, 0))), (5, .ref (ad (41, 0, 0, 0))), (6, .ref (ad (42, 0, 0, 0))), (7, .ref (ad (40, 0, 0, 0))), (8, .ref (ad (45, 0, 0, 0))), (9, .int (nI d)), (10, .int (nI fd))]) hx hb dL_isDevice_497 hl (by decide) rfl (fun ls hl => ?_)
          refine n_iinc (j := j) (n := 1) (lv' := [(17, .int (nI (j + 1))), (16, .int (lasI Z d k (j + 1))), (15, .int (nI (agN Z d k (j + 1)))), (18, .int (snc Z d k j)), (14, .int (nI stt)), (13, .int (nI k)), (12, .int (bI true)), (11, .int (nI cl)), (0, .ref (ad (0, 0, 0, 0))), (1, .ref (ad (35, 0, 0, 0))), (2, .ref (ad (37, 0, 0, 0))), (3, .ref (ad (43, 0, 0, 0))), (4, .ref (ad (44, 0, 0, 0))), (5, .ref (ad (41, 0, 0, 0))), (6, .ref (ad (42, 0, 0, 0))), (7, .ref (ad (40, 0, 0, 0))), (8, .ref (ad (45, 0, 0, 0))), (9, .int (nI d)), (10, .int (nI fd))]) hx hb dL_isDevice_499 hl (k := 3) rfl (by decide) (by decide) rfl (fun ls hl => ?_)
          refine lv_goto (tgt := 432) hx hb dL_isDevice_502 (by decide) ?_
          exact ih432 (j + 1) (by omega) (by omega) H locs ls (h.eq (congrArg (lay tc ad gm dz) rfl)) (lv_sub hl [0, 1, 2, 4, 5, 6, 7, 8, 9, 10, 11, 12, 13, 14, 15, 16, 17, 18] rfl)
      · skip
        have hcn : agN Z d k j + 1 = agN Z d k (j + 1) := (cntN_y (p := fun k9 => mo Z k k9 && kmk Z d k9) (snc_b.trans (decide_eq_true (not_le_lt c_472)))).symm
        refine lv_iconst (v := nI 1) hx hb dL_isDevice_475 (by decide) ?_
        refine lv_goto (tgt := 480) hx hb dL_isDevice_476 (by decide) ?_
        refine n_iadd hx hb dL_isDevice_480 ?_
        rw [hcn]
        refine lv_istore (lv' := [(15, .int (nI (agN Z d k (j + 1)))), (18, .int (snc Z d k j)), (17, .int (nI j)), (16, .int (lasI Z d k j)), (14, .int (nI stt)), (13, .int (nI k)), (12, .int (bI true)), (11, .int (nI cl)), (0, .ref (ad (0, 0, 0, 0))), (1, .ref (ad (35, 0, 0, 0))), (2, .ref (ad (37, 0, 0, 0))), (3, .ref (ad (43, 0, 0, 0))), (4, .ref (ad (44, 0, 0, 0))), (5, .ref (ad (41, 0, 0, 0))), (6, .ref (ad (42, 0, 0, 0))), (7, .ref (ad (40, 0, 0, 0))), (8, .ref (ad (45, 0, 0, 0))), (9, .int (nI d)), (10, .int (nI fd))]) hx hb dL_isDevice_481 hl (by decide) rfl (fun ls hl => ?_)
        refine lv_iload hx hb dL_isDevice_483 (lv_at hl 1 rfl) ?_
        refine lv_iload hx hb dL_isDevice_485 (lv_at hl 3 rfl) ?_
        refine lv_icmp_le (tgt := 495) hx hb dL_isDevice_487 (by decide) (fun c_487 => ?_) (fun c_487 => ?_)
        · skip
          have hla : lasI Z d k j = lasI Z d k (j + 1) := las_le hok.tr c_487
          refine lv_iload hx hb dL_isDevice_495 (lv_at hl 3 rfl) ?_
          rw [hla]
          refine lv_istore (lv' := [(16, .int (lasI Z d k (j + 1))), (15, .int (nI (agN Z d k (j + 1)))), (18, .int (snc Z d k j)), (17, .int (nI j)), (14, .int (nI stt)), (13, .int (nI k)), (12, .int (bI true)), (11, .int (nI cl)), (0, .ref (ad (0, 0, 0, 0))), (1, .ref (ad (35, 0, 0, 0))), (2, .ref (ad (37, 0, 0, 0))), (3, .ref (ad (43, 0, 0, 0))), (4, .ref (ad (44, 0, 0, 0))), (5, .ref (ad (41, 0, 0, 0))), (6, .ref (ad (42, 0, 0, 0))), (7, .ref (ad (40, 0, 0, 0))), (8, .ref (ad (45, 0, 0, 0))), (9, .int (nI d)), (10, .int (nI fd))]) hx hb dL_isDevice_497 hl (by decide) rfl (fun ls hl => ?_)
          refine n_iinc (j := j) (n := 1) (lv' := [(17, .int (nI (j + 1))), (16, .int (lasI Z d k (j + 1))), (15, .int (nI (agN Z d k (j + 1)))), (18, .int (snc Z d k j)), (14, .int (nI stt)), (13, .int (nI k)), (12, .int (bI true)), (11, .int (nI cl)), (0, .ref (ad (0, 0, 0, 0))), (1, .ref (ad (35, 0, 0, 0))), (2, .ref (ad (37, 0, 0, 0))), (3, .ref (ad (43, 0, 0, 0))), (4, .ref (ad (44, 0, 0, 0))), (5, .ref (ad (41, 0, 0, 0))), (6, .ref (ad (42, 0, 0, 0))), (7, .ref (ad (40, 0, 0, 0))), (8, .ref (ad (45, 0, 0, 0))), (9, .int (nI d)), (10, .int (nI fd))]) hx hb dL_isDevice_499 hl (k := 3) rfl (by decide) (by decide) rfl (fun ls hl => ?_)
          refine lv_goto (tgt := 432) hx hb dL_isDevice_502 (by decide) ?_
          exact ih432 (j + 1) (by omega) (by omega) H locs ls (h.eq (congrArg (lay tc ad gm dz) rfl)) (lv_sub hl [0, 1, 2, 4, 5, 6, 7, 8, 9, 10, 11, 12, 13, 14, 15, 16, 17, 18] rfl)
        · skip
          have hla : snc Z d k j = lasI Z d k (j + 1) := las_gt hok.tr c_487
          refine lv_iload hx hb dL_isDevice_490 (lv_at hl 1 rfl) ?_
          refine lv_goto (tgt := 497) hx hb dL_isDevice_492 (by decide) ?_
          rw [hla]
          refine lv_istore (lv' := [(16, .int (lasI Z d k (j + 1))), (15, .int (nI (agN Z d k (j + 1)))), (18, .int (snc Z d k j)), (17, .int (nI j)), (14, .int (nI stt)), (13, .int (nI k)), (12, .int (bI true)), (11, .int (nI cl)), (0, .ref (ad (0, 0, 0, 0))), (1, .ref (ad (35, 0, 0, 0))), (2, .ref (ad (37, 0, 0, 0))), (3, .ref (ad (43, 0, 0, 0))), (4, .ref (ad (44, 0, 0, 0))), (5, .ref (ad (41, 0, 0, 0))), (6, .ref (ad (42, 0, 0, 0))), (7, .ref (ad (40, 0, 0, 0))), (8, .ref (ad (45, 0, 0, 0))), (9, .int (nI d)), (10, .int (nI fd))]) hx hb dL_isDevice_497 hl (by decide) rfl (fun ls hl => ?_)
          refine n_iinc (j := j) (n := 1) (lv' := [(17, .int (nI (j + 1))), (16, .int (lasI Z d k (j + 1))), (15, .int (nI (agN Z d k (j + 1)))), (18, .int (snc Z d k j)), (14, .int (nI stt)), (13, .int (nI k)), (12, .int (bI true)), (11, .int (nI cl)), (0, .ref (ad (0, 0, 0, 0))), (1, .ref (ad (35, 0, 0, 0))), (2, .ref (ad (37, 0, 0, 0))), (3, .ref (ad (43, 0, 0, 0))), (4, .ref (ad (44, 0, 0, 0))), (5, .ref (ad (41, 0, 0, 0))), (6, .ref (ad (42, 0, 0, 0))), (7, .ref (ad (40, 0, 0, 0))), (8, .ref (ad (45, 0, 0, 0))), (9, .int (nI d)), (10, .int (nI fd))]) hx hb dL_isDevice_499 hl (k := 3) rfl (by decide) (by decide) rfl (fun ls hl => ?_)
          refine lv_goto (tgt := 432) hx hb dL_isDevice_502 (by decide) ?_
          exact ih432 (j + 1) (by omega) (by omega) H locs ls (h.eq (congrArg (lay tc ad gm dz) rfl)) (lv_sub hl [0, 1, 2, 4, 5, 6, 7, 8, 9, 10, 11, 12, 13, 14, 15, 16, 17, 18] rfl)

set_option maxHeartbeats 4000000 in
set_option maxRecDepth 100000 in
theorem dv_m2 (X : Cx p s mth args meth c cL_isDevice yL_isDevice.cls 21 D tc dz A) (hR1 : 13 ≤ R.frames) (hR2 : 410 ≤ R.locals) (hcR : cells + 0 ≤ R.cells) (hsR : slots + 0 ≤ R.slots) (hL : LV gm Ks) (hst : l.stackTraces = false) (hW : LW gm Ks) (hG2 : GM2 gm) (Z : Mem) (V : Nat → BS) (acts : Nat → Act) (z n m t : Nat) (ac mcs : Nat → Nat) (cn : Nat) (hS : LWS Z gm V acts z n m t ac mcs cn) (hcn : cn < 59) (d k fd cl : Nat) (hd : d < 6) (hk : k < n) (stt : Nat) (hs4 : stt ≤ 3) (h : Sx D A ad Ks (lay tc ad gm dz (LL Z)) s H locs) (hl : lv_has ls 21 [(16, .int (lasI Z d k m)), (15, .int (nI (agN Z d k m))), (14, .int (nI stt)), (13, .int (nI k)), (12, .int (bI true)), (11, .int (nI cl)), (0, .ref (ad (0, 0, 0, 0))), (1, .ref (ad (35, 0, 0, 0))), (2, .ref (ad (37, 0, 0, 0))), (3, .ref (ad (43, 0, 0, 0))), (4, .ref (ad (44, 0, 0, 0))), (5, .ref (ad (41, 0, 0, 0))), (6, .ref (ad (42, 0, 0, 0))), (7, .ref (ad (40, 0, 0, 0))), (8, .ref (ad (45, 0, 0, 0))), (9, .int (nI d)), (10, .int (nI fd))])
    (kk : ∀ (H1 : Heap) (locs1 : List Loc) (ls1 : Array Slot), Sx D A ad Ks (lay tc ad gm dz (LL Z)) s H1 locs1 → lv_has ls1 21 [(17, .int (dueI Z d k m)), (15, .int (nI (agN Z d k m))), (14, .int (nI stt)), (13, .int (nI k)), (12, .int (bI true)), (11, .int (nI cl)), (0, .ref (ad (0, 0, 0, 0))), (1, .ref (ad (35, 0, 0, 0))), (2, .ref (ad (37, 0, 0, 0))), (3, .ref (ad (43, 0, 0, 0))), (4, .ref (ad (44, 0, 0, 0))), (5, .ref (ad (41, 0, 0, 0))), (6, .ref (ad (42, 0, 0, 0))), (7, .ref (ad (40, 0, 0, 0))), (8, .ref (ad (45, 0, 0, 0))), (9, .int (nI d)), (10, .int (nI fd))] → W p l e R s mth args below meth c H1 locs1 cells slots Q (F0 mth 535 ls1 [])) : W p l e R s mth args below meth c H locs cells slots Q (F0 mth 505 ls []) := by
  have hok := hS.2.1
  have hn2 := hS.2.2.1
  have hm10 := hS.2.2.2
  have hN := nr_of hS.1.1
  have ht9 : t ≤ 2000 := by have := hS.1.2.2.2.2.2.2.2.2.2.1; omega
  have hBK := lb_bk (G := Z) hS.1 (fun _ _ => rfl)
  have hR9 := lb_rel0 (G := Z) hS.1.1 (fun _ _ => rfl)
  have hC := hR9.cp k d (by omega) hd
  obtain ⟨hx, hb, hmaxL, hown, hts⟩ := id X.1
  refine lv_aload hx hb dL_isDevice_505 (lv_at hl 14 rfl) ?_
  refine lv_iconst (v := nI 1) hx hb dL_isDevice_507 (by decide) ?_
  refine y_ald X h (fun _ => rfl) (by decide) (hL (45, 0, 0, 0) ⟨by decide, rfl, rfl, rfl⟩) (by omega) (v := nI t) (gc_1.trans hN.2.1) dL_isDevice_508 ?_
  refine lv_iconst (v := nI 1) hx hb dL_isDevice_509 (by decide) ?_
  refine n_iadd hx hb dL_isDevice_510 ?_
  refine lv_iload hx hb dL_isDevice_511 (lv_at hl 0 rfl) ?_
  refine lv_isub hx hb dL_isDevice_513 ?_
  refine lv_bipush (v := nI 99) hx hb dL_isDevice_514 (by decide) ?_
  refine lv_icmp_le (tgt := 524) hx hb dL_isDevice_516 (by decide) (fun c_516 => ?_) (fun c_516 => ?_)
  · skip
    have hdu : nI (t + 1) - lasI Z d k m = dueI Z d k m := due_s hN.2.1 c_516
    refine lv_aload hx hb dL_isDevice_524 (lv_at hl 14 rfl) ?_
    refine lv_iconst (v := nI 1) hx hb dL_isDevice_526 (by decide) ?_
    refine y_ald X h (fun _ => rfl) (by decide) (hL (45, 0, 0, 0) ⟨by decide, rfl, rfl, rfl⟩) (by omega) (v := nI t) (gc_1.trans hN.2.1) dL_isDevice_527 ?_
    refine lv_iconst (v := nI 1) hx hb dL_isDevice_528 (by decide) ?_
    refine n_iadd hx hb dL_isDevice_529 ?_
    refine lv_iload hx hb dL_isDevice_530 (lv_at hl 0 rfl) ?_
    refine lv_isub hx hb dL_isDevice_532 ?_
    rw [hdu]
    refine lv_istore (lv' := [(17, .int (dueI Z d k m)), (16, .int (lasI Z d k m)), (15, .int (nI (agN Z d k m))), (14, .int (nI stt)), (13, .int (nI k)), (12, .int (bI true)), (11, .int (nI cl)), (0, .ref (ad (0, 0, 0, 0))), (1, .ref (ad (35, 0, 0, 0))), (2, .ref (ad (37, 0, 0, 0))), (3, .ref (ad (43, 0, 0, 0))), (4, .ref (ad (44, 0, 0, 0))), (5, .ref (ad (41, 0, 0, 0))), (6, .ref (ad (42, 0, 0, 0))), (7, .ref (ad (40, 0, 0, 0))), (8, .ref (ad (45, 0, 0, 0))), (9, .int (nI d)), (10, .int (nI fd))]) hx hb dL_isDevice_533 hl (by decide) rfl (fun ls hl => ?_)
    exact kk H locs ls h (lv_sub hl [0, 2, 3, 4, 5, 6, 7, 8, 9, 10, 11, 12, 13, 14, 15, 16, 17] rfl)
  · skip
    have hdu : nI 99 = dueI Z d k m := due_l hN.2.1 c_516
    refine lv_bipush (v := nI 99) hx hb dL_isDevice_519 (by decide) ?_
    refine lv_goto (tgt := 533) hx hb dL_isDevice_521 (by decide) ?_
    rw [hdu]
    refine lv_istore (lv' := [(17, .int (dueI Z d k m)), (16, .int (lasI Z d k m)), (15, .int (nI (agN Z d k m))), (14, .int (nI stt)), (13, .int (nI k)), (12, .int (bI true)), (11, .int (nI cl)), (0, .ref (ad (0, 0, 0, 0))), (1, .ref (ad (35, 0, 0, 0))), (2, .ref (ad (37, 0, 0, 0))), (3, .ref (ad (43, 0, 0, 0))), (4, .ref (ad (44, 0, 0, 0))), (5, .ref (ad (41, 0, 0, 0))), (6, .ref (ad (42, 0, 0, 0))), (7, .ref (ad (40, 0, 0, 0))), (8, .ref (ad (45, 0, 0, 0))), (9, .int (nI d)), (10, .int (nI fd))]) hx hb dL_isDevice_533 hl (by decide) rfl (fun ls hl => ?_)
    exact kk H locs ls h (lv_sub hl [0, 2, 3, 4, 5, 6, 7, 8, 9, 10, 11, 12, 13, 14, 15, 16, 17] rfl)

set_option maxHeartbeats 4000000 in
set_option maxRecDepth 100000 in
theorem dv_m3 (X : Cx p s mth args meth c cL_isDevice yL_isDevice.cls 21 D tc dz A) (hR1 : 13 ≤ R.frames) (hR2 : 410 ≤ R.locals) (hcR : cells + 0 ≤ R.cells) (hsR : slots + 0 ≤ R.slots) (hL : LV gm Ks) (hst : l.stackTraces = false) (hW : LW gm Ks) (hG2 : GM2 gm) (Z : Mem) (V : Nat → BS) (acts : Nat → Act) (z n m t : Nat) (ac mcs : Nat → Nat) (cn : Nat) (hS : LWS Z gm V acts z n m t ac mcs cn) (hcn : cn < 59) (d k fd cl : Nat) (hd : d < 6) (hk : k < n) (stt : Nat) (hs4 : stt ≤ 3) (hkn : 0 < stt → nz (LL Z (9, 0, k, d) 0) = true) (h : Sx D A ad Ks (lay tc ad gm dz (LL Z)) s H locs) (hl : lv_has ls 21 [(17, .int (dueI Z d k m)), (15, .int (nI (agN Z d k m))), (14, .int (nI stt)), (13, .int (nI k)), (12, .int (bI true)), (11, .int (nI cl)), (0, .ref (ad (0, 0, 0, 0))), (1, .ref (ad (35, 0, 0, 0))), (2, .ref (ad (37, 0, 0, 0))), (3, .ref (ad (43, 0, 0, 0))), (4, .ref (ad (44, 0, 0, 0))), (5, .ref (ad (41, 0, 0, 0))), (6, .ref (ad (42, 0, 0, 0))), (7, .ref (ad (40, 0, 0, 0))), (8, .ref (ad (45, 0, 0, 0))), (9, .int (nI d)), (10, .int (nI fd))])
    (kk : ∀ (H1 : Heap) (locs1 : List Loc) (ls1 : Array Slot), Sx D A ad Ks (lay tc ad gm dz (LL Z)) s H1 locs1 → lv_has ls1 21 [(13, .int (nI (k + 1))), (12, .int (bI true)), (11, .int (nI cl)), (0, .ref (ad (0, 0, 0, 0))), (1, .ref (ad (35, 0, 0, 0))), (2, .ref (ad (37, 0, 0, 0))), (3, .ref (ad (43, 0, 0, 0))), (4, .ref (ad (44, 0, 0, 0))), (5, .ref (ad (41, 0, 0, 0))), (6, .ref (ad (42, 0, 0, 0))), (7, .ref (ad (40, 0, 0, 0))), (8, .ref (ad (45, 0, 0, 0))), (9, .int (nI d)), (10, .int (nI fd))] → W p l e R s mth args below meth c H1 locs1 cells slots Q (F0 mth 9 ls1 [])) : W p l e R s mth args below meth c H locs cells slots Q (F0 mth 535 ls []) := by
  have hok := hS.2.1
  have hn2 := hS.2.2.1
  have hm10 := hS.2.2.2
  have hN := nr_of hS.1.1
  have ht9 : t ≤ 2000 := by have := hS.1.2.2.2.2.2.2.2.2.2.1; omega
  have hBK := lb_bk (G := Z) hS.1 (fun _ _ => rfl)
  have hR9 := lb_rel0 (G := Z) hS.1.1 (fun _ _ => rfl)
  have hC := hR9.cp k d (by omega) hd
  have hag := agN_le Z d k m
  obtain ⟨hx, hb, hmaxL, hown, hts⟩ := id X.1
  refine lv_iload hx hb dL_isDevice_535 (lv_at hl 4 rfl) ?_
  refine b_if_eq (tgt := 577) hx hb dL_isDevice_537 (by decide) (fun c => (Bool.noConfusion c)) (fun _ => ?_)
  refine lv_iload hx hb dL_isDevice_540 (lv_at hl 2 rfl) ?_
  refine n_if_eq (tgt := 573) hx hb (by omega) dL_isDevice_542 (by decide) (fun c_542 => ?_) (fun c_542 => ?_)
  · skip
    refine lv_iconst (v := nI 1) hx hb dL_isDevice_573 (by decide) ?_
    refine lv_goto (tgt := 578) hx hb dL_isDevice_574 (by decide) ?_
    refine lv_istore (lv' := [(12, .int (nI 1)), (17, .int (dueI Z d k m)), (15, .int (nI (agN Z d k m))), (14, .int (nI stt)), (13, .int (nI k)), (11, .int (nI cl)), (0, .ref (ad (0, 0, 0, 0))), (1, .ref (ad (35, 0, 0, 0))), (2, .ref (ad (37, 0, 0, 0))), (3, .ref (ad (43, 0, 0, 0))), (4, .ref (ad (44, 0, 0, 0))), (5, .ref (ad (41, 0, 0, 0))), (6, .ref (ad (42, 0, 0, 0))), (7, .ref (ad (40, 0, 0, 0))), (8, .ref (ad (45, 0, 0, 0))), (9, .int (nI d)), (10, .int (nI fd))]) hx hb dL_isDevice_578 hl (by decide) rfl (fun ls hl => ?_)
    refine n_iinc (j := k) (n := 1) (lv' := [(13, .int (nI (k + 1))), (12, .int (nI 1)), (17, .int (dueI Z d k m)), (15, .int (nI (agN Z d k m))), (14, .int (nI stt)), (11, .int (nI cl)), (0, .ref (ad (0, 0, 0, 0))), (1, .ref (ad (35, 0, 0, 0))), (2, .ref (ad (37, 0, 0, 0))), (3, .ref (ad (43, 0, 0, 0))), (4, .ref (ad (44, 0, 0, 0))), (5, .ref (ad (41, 0, 0, 0))), (6, .ref (ad (42, 0, 0, 0))), (7, .ref (ad (40, 0, 0, 0))), (8, .ref (ad (45, 0, 0, 0))), (9, .int (nI d)), (10, .int (nI fd))]) hx hb dL_isDevice_580 hl (k := 4) rfl (by decide) (by decide) rfl (fun ls hl => ?_)
    refine lv_goto (tgt := 9) hx hb dL_isDevice_583 (by decide) ?_
    exact kk H locs ls h (lv_sub hl [0, 1, 5, 6, 7, 8, 9, 10, 11, 12, 13, 14, 15, 16] rfl)
  · skip
    refine lv_aload_n hx hb dL_isDevice_545 rfl (lv_at hl 6 rfl) ?_
    refine lv_iload hx hb dL_isDevice_546 (lv_at hl 15 rfl) ?_
    refine lv_iload hx hb dL_isDevice_548 (lv_at hl 3 rfl) ?_
    refine x_doneI X h (x_runV X h (k := (0, 0, 0, 0)) (m_X6_marks (LL Z) hL hG2.ok n mcs hBK d k hd hk (hkn (by omega)) _) F_X6_marks q725 q726 q727 (hL (0, 0, 0, 0) ⟨rfl, rfl, rfl⟩) rfl rfl rfl (Nat.le_trans (by decide) hR1) (Nat.le_trans (by decide) hR2) ⟨by omega, by omega⟩ hl.1 (Nat.le_of_ble_eq_true rfl) dL_isDevice_550 rfl) (fun H locs h => ?_)
    rw [rl_mrk hR9 (by omega) hd]
    refine lv_iload hx hb dL_isDevice_553 (lv_at hl 1 rfl) ?_
    refine n_if_ne (tgt := 562) hx hb (by omega) dL_isDevice_555 (by decide) (fun c_555 => ?_) (fun c_555 => ?_)
    · skip
      refine lv_bipush (v := nI 100) hx hb dL_isDevice_562 (by decide) ?_
      refine lv_iload hx hb dL_isDevice_564 (lv_at hl 1 rfl) ?_
      refine n_imul hx hb dL_isDevice_566 ?_
      refine lv_iload hx hb dL_isDevice_567 (lv_at hl 0 rfl) ?_
      refine lv_iadd hx hb dL_isDevice_569 ?_
      refine lv_icmp_ne (tgt := 577) hx hb dL_isDevice_570 (by decide) (fun c => absurd (mmk_d (by omega)) c) (fun _ => ?_)
      refine lv_iconst (v := nI 1) hx hb dL_isDevice_573 (by decide) ?_
      refine lv_goto (tgt := 578) hx hb dL_isDevice_574 (by decide) ?_
      refine lv_istore (lv' := [(12, .int (nI 1)), (17, .int (dueI Z d k m)), (15, .int (nI (agN Z d k m))), (14, .int (nI stt)), (13, .int (nI k)), (11, .int (nI cl)), (0, .ref (ad (0, 0, 0, 0))), (1, .ref (ad (35, 0, 0, 0))), (2, .ref (ad (37, 0, 0, 0))), (3, .ref (ad (43, 0, 0, 0))), (4, .ref (ad (44, 0, 0, 0))), (5, .ref (ad (41, 0, 0, 0))), (6, .ref (ad (42, 0, 0, 0))), (7, .ref (ad (40, 0, 0, 0))), (8, .ref (ad (45, 0, 0, 0))), (9, .int (nI d)), (10, .int (nI fd))]) hx hb dL_isDevice_578 hl (by decide) rfl (fun ls hl => ?_)
      refine n_iinc (j := k) (n := 1) (lv' := [(13, .int (nI (k + 1))), (12, .int (nI 1)), (17, .int (dueI Z d k m)), (15, .int (nI (agN Z d k m))), (14, .int (nI stt)), (11, .int (nI cl)), (0, .ref (ad (0, 0, 0, 0))), (1, .ref (ad (35, 0, 0, 0))), (2, .ref (ad (37, 0, 0, 0))), (3, .ref (ad (43, 0, 0, 0))), (4, .ref (ad (44, 0, 0, 0))), (5, .ref (ad (41, 0, 0, 0))), (6, .ref (ad (42, 0, 0, 0))), (7, .ref (ad (40, 0, 0, 0))), (8, .ref (ad (45, 0, 0, 0))), (9, .int (nI d)), (10, .int (nI fd))]) hx hb dL_isDevice_580 hl (k := 4) rfl (by decide) (by decide) rfl (fun ls hl => ?_)
      refine lv_goto (tgt := 9) hx hb dL_isDevice_583 (by decide) ?_
      exact kk H locs ls h (lv_sub hl [0, 1, 5, 6, 7, 8, 9, 10, 11, 12, 13, 14, 15, 16] rfl)
    · skip
      refine lv_iconst (v := nI 0) hx hb dL_isDevice_558 (by decide) ?_
      refine lv_goto (tgt := 570) hx hb dL_isDevice_559 (by decide) ?_
      refine lv_icmp_ne (tgt := 577) hx hb dL_isDevice_570 (by decide) (fun c => absurd (mmk_0 c_555) c) (fun _ => ?_)
      refine lv_iconst (v := nI 1) hx hb dL_isDevice_573 (by decide) ?_
      refine lv_goto (tgt := 578) hx hb dL_isDevice_574 (by decide) ?_
      refine lv_istore (lv' := [(12, .int (nI 1)), (17, .int (dueI Z d k m)), (15, .int (nI (agN Z d k m))), (14, .int (nI stt)), (13, .int (nI k)), (11, .int (nI cl)), (0, .ref (ad (0, 0, 0, 0))), (1, .ref (ad (35, 0, 0, 0))), (2, .ref (ad (37, 0, 0, 0))), (3, .ref (ad (43, 0, 0, 0))), (4, .ref (ad (44, 0, 0, 0))), (5, .ref (ad (41, 0, 0, 0))), (6, .ref (ad (42, 0, 0, 0))), (7, .ref (ad (40, 0, 0, 0))), (8, .ref (ad (45, 0, 0, 0))), (9, .int (nI d)), (10, .int (nI fd))]) hx hb dL_isDevice_578 hl (by decide) rfl (fun ls hl => ?_)
      refine n_iinc (j := k) (n := 1) (lv' := [(13, .int (nI (k + 1))), (12, .int (nI 1)), (17, .int (dueI Z d k m)), (15, .int (nI (agN Z d k m))), (14, .int (nI stt)), (11, .int (nI cl)), (0, .ref (ad (0, 0, 0, 0))), (1, .ref (ad (35, 0, 0, 0))), (2, .ref (ad (37, 0, 0, 0))), (3, .ref (ad (43, 0, 0, 0))), (4, .ref (ad (44, 0, 0, 0))), (5, .ref (ad (41, 0, 0, 0))), (6, .ref (ad (42, 0, 0, 0))), (7, .ref (ad (40, 0, 0, 0))), (8, .ref (ad (45, 0, 0, 0))), (9, .int (nI d)), (10, .int (nI fd))]) hx hb dL_isDevice_580 hl (k := 4) rfl (by decide) (by decide) rfl (fun ls hl => ?_)
      refine lv_goto (tgt := 9) hx hb dL_isDevice_583 (by decide) ?_
      exact kk H locs ls h (lv_sub hl [0, 1, 5, 6, 7, 8, 9, 10, 11, 12, 13, 14, 15, 16] rfl)

set_option maxHeartbeats 4000000 in
set_option maxRecDepth 100000 in
theorem dv_0 (X : Cx p s mth args meth c cL_isDevice yL_isDevice.cls 21 D tc dz A) (hR1 : 13 ≤ R.frames) (hR2 : 410 ≤ R.locals) (hcR : cells + 0 ≤ R.cells) (hsR : slots + 0 ≤ R.slots) (hL : LV gm Ks) (hst : l.stackTraces = false) (hW : LW gm Ks) (hG2 : GM2 gm) (Z : Mem) (V : Nat → BS) (acts : Nat → Act) (z n m t : Nat) (ac mcs : Nat → Nat) (cn : Nat) (hS : LWS Z gm V acts z n m t ac mcs cn) (hcn : cn < 59) (d fd cl : Nat) (hd : d < 6) (h : Sx D A ad Ks (lay tc ad gm dz (LL Z)) s H locs) (hl : lv_has ls 21 [(0, .ref (ad (0, 0, 0, 0))), (1, .ref (ad (35, 0, 0, 0))), (2, .ref (ad (37, 0, 0, 0))), (3, .ref (ad (43, 0, 0, 0))), (4, .ref (ad (44, 0, 0, 0))), (5, .ref (ad (41, 0, 0, 0))), (6, .ref (ad (42, 0, 0, 0))), (7, .ref (ad (40, 0, 0, 0))), (8, .ref (ad (45, 0, 0, 0))), (9, .int (nI d)), (10, .int (nI fd))])
    (kk : ∀ (H1 : Heap) (locs1 : List Loc) (ls1 : Array Slot), Sx D A ad Ks (lay tc ad gm dz (LL Z)) s H1 locs1 → lv_has ls1 21 [(13, .int (nI 0)), (12, .int (bI true)), (11, .int (nI 0)), (0, .ref (ad (0, 0, 0, 0))), (1, .ref (ad (35, 0, 0, 0))), (2, .ref (ad (37, 0, 0, 0))), (3, .ref (ad (43, 0, 0, 0))), (4, .ref (ad (44, 0, 0, 0))), (5, .ref (ad (41, 0, 0, 0))), (6, .ref (ad (42, 0, 0, 0))), (7, .ref (ad (40, 0, 0, 0))), (8, .ref (ad (45, 0, 0, 0))), (9, .int (nI d)), (10, .int (nI fd))] → W p l e R s mth args below meth c H1 locs1 cells slots Q (F0 mth 9 ls1 [])) : W p l e R s mth args below meth c H locs cells slots Q (F0 mth 0 ls []) := by
  have hok := hS.2.1
  have hn2 := hS.2.2.1
  have hm10 := hS.2.2.2
  have hN := nr_of hS.1.1
  have ht9 : t ≤ 2000 := by have := hS.1.2.2.2.2.2.2.2.2.2.1; omega
  have hBK := lb_bk (G := Z) hS.1 (fun _ _ => rfl)
  have hR9 := lb_rel0 (G := Z) hS.1.1 (fun _ _ => rfl)
  obtain ⟨hx, hb, hmaxL, hown, hts⟩ := id X.1
  refine lv_iconst (v := nI 0) hx hb dL_isDevice_0 (by decide) ?_
  refine lv_istore (lv' := [(11, .int (nI 0)), (0, .ref (ad (0, 0, 0, 0))), (1, .ref (ad (35, 0, 0, 0))), (2, .ref (ad (37, 0, 0, 0))), (3, .ref (ad (43, 0, 0, 0))), (4, .ref (ad (44, 0, 0, 0))), (5, .ref (ad (41, 0, 0, 0))), (6, .ref (ad (42, 0, 0, 0))), (7, .ref (ad (40, 0, 0, 0))), (8, .ref (ad (45, 0, 0, 0))), (9, .int (nI d)), (10, .int (nI fd))]) hx hb dL_isDevice_1 hl (by decide) rfl (fun ls hl => ?_)
  refine lv_iconst (v := nI 1) hx hb dL_isDevice_3 (by decide) ?_
  refine lv_istore (lv' := [(12, .int (nI 1)), (11, .int (nI 0)), (0, .ref (ad (0, 0, 0, 0))), (1, .ref (ad (35, 0, 0, 0))), (2, .ref (ad (37, 0, 0, 0))), (3, .ref (ad (43, 0, 0, 0))), (4, .ref (ad (44, 0, 0, 0))), (5, .ref (ad (41, 0, 0, 0))), (6, .ref (ad (42, 0, 0, 0))), (7, .ref (ad (40, 0, 0, 0))), (8, .ref (ad (45, 0, 0, 0))), (9, .int (nI d)), (10, .int (nI fd))]) hx hb dL_isDevice_4 hl (by decide) rfl (fun ls hl => ?_)
  refine lv_iconst (v := nI 0) hx hb dL_isDevice_6 (by decide) ?_
  refine lv_istore (lv' := [(13, .int (nI 0)), (12, .int (nI 1)), (11, .int (nI 0)), (0, .ref (ad (0, 0, 0, 0))), (1, .ref (ad (35, 0, 0, 0))), (2, .ref (ad (37, 0, 0, 0))), (3, .ref (ad (43, 0, 0, 0))), (4, .ref (ad (44, 0, 0, 0))), (5, .ref (ad (41, 0, 0, 0))), (6, .ref (ad (42, 0, 0, 0))), (7, .ref (ad (40, 0, 0, 0))), (8, .ref (ad (45, 0, 0, 0))), (9, .int (nI d)), (10, .int (nI fd))]) hx hb dL_isDevice_7 hl (by decide) rfl (fun ls hl => ?_)
  exact kk H locs ls h (lv_sub hl [0, 1, 2, 3, 4, 5, 6, 7, 8, 9, 10, 11, 12, 13] rfl)

set_option maxHeartbeats 4000000 in
set_option maxRecDepth 100000 in
theorem dv_9 (X : Cx p s mth args meth c cL_isDevice yL_isDevice.cls 21 D tc dz A) (hR1 : 13 ≤ R.frames) (hR2 : 410 ≤ R.locals) (hcR : cells + 0 ≤ R.cells) (hsR : slots + 0 ≤ R.slots) (hL : LV gm Ks) (hst : l.stackTraces = false) (hW : LW gm Ks) (hG2 : GM2 gm) (Z : Mem) (V : Nat → BS) (acts : Nat → Act) (z n m t : Nat) (ac mcs : Nat → Nat) (cn : Nat) (hS : LWS Z gm V acts z n m t ac mcs cn) (hcn : cn < 59) (d k fd cl : Nat) (hd : d < 6) (hk : k < n) (h : Sx D A ad Ks (lay tc ad gm dz (LL Z)) s H locs) (hl : lv_has ls 21 [(13, .int (nI k)), (12, .int (bI true)), (11, .int (nI cl)), (0, .ref (ad (0, 0, 0, 0))), (1, .ref (ad (35, 0, 0, 0))), (2, .ref (ad (37, 0, 0, 0))), (3, .ref (ad (43, 0, 0, 0))), (4, .ref (ad (44, 0, 0, 0))), (5, .ref (ad (41, 0, 0, 0))), (6, .ref (ad (42, 0, 0, 0))), (7, .ref (ad (40, 0, 0, 0))), (8, .ref (ad (45, 0, 0, 0))), (9, .int (nI d)), (10, .int (nI fd))])
    (kk : ∀ (H1 : Heap) (locs1 : List Loc) (ls1 : Array Slot), Sx D A ad Ks (lay tc ad gm dz (LL Z)) s H1 locs1 → lv_has ls1 21 [(13, .int (nI k)), (12, .int (bI true)), (11, .int (nI cl)), (0, .ref (ad (0, 0, 0, 0))), (1, .ref (ad (35, 0, 0, 0))), (2, .ref (ad (37, 0, 0, 0))), (3, .ref (ad (43, 0, 0, 0))), (4, .ref (ad (44, 0, 0, 0))), (5, .ref (ad (41, 0, 0, 0))), (6, .ref (ad (42, 0, 0, 0))), (7, .ref (ad (40, 0, 0, 0))), (8, .ref (ad (45, 0, 0, 0))), (9, .int (nI d)), (10, .int (nI fd))] → W p l e R s mth args below meth c H1 locs1 cells slots Q (F0 mth 23 ls1 [])) : W p l e R s mth args below meth c H locs cells slots Q (F0 mth 9 ls []) := by
  have hok := hS.2.1
  have hn2 := hS.2.2.1
  have hm10 := hS.2.2.2
  have hN := nr_of hS.1.1
  have ht9 : t ≤ 2000 := by have := hS.1.2.2.2.2.2.2.2.2.2.1; omega
  have hBK := lb_bk (G := Z) hS.1 (fun _ _ => rfl)
  have hR9 := lb_rel0 (G := Z) hS.1.1 (fun _ _ => rfl)
  have hC := hR9.cp k d (by omega) hd
  obtain ⟨hx, hb, hmaxL, hown, hts⟩ := id X.1
  refine lv_iload hx hb dL_isDevice_9 (lv_at hl 0 rfl) ?_
  refine lv_aload hx hb dL_isDevice_11 (lv_at hl 11 rfl) ?_
  refine lv_iconst (v := nI 0) hx hb dL_isDevice_13 (by decide) ?_
  refine y_ald X h (fun _ => rfl) (by decide) (hL (45, 0, 0, 0) ⟨by decide, rfl, rfl, rfl⟩) (by omega) (v := nI n) (gc_0.trans hN.1) dL_isDevice_14 ?_
  refine n_icmp_ge (tgt := 586) hx hb (by omega) (by omega) dL_isDevice_15 (by decide) (fun c => absurd hk (by omega)) (fun _ => ?_)
  refine lv_iload hx hb dL_isDevice_18 (lv_at hl 1 rfl) ?_
  refine b_if_eq (tgt := 586) hx hb dL_isDevice_20 (by decide) (fun c => (Bool.noConfusion c)) (fun _ => ?_)
  exact kk H locs ls h (lv_sub hl [0, 1, 2, 3, 4, 5, 6, 7, 8, 9, 10, 11, 12, 13] rfl)

set_option maxHeartbeats 4000000 in
set_option maxRecDepth 100000 in
theorem dv_o (X : Cx p s mth args meth c cL_isDevice yL_isDevice.cls 21 D tc dz A) (hR1 : 13 ≤ R.frames) (hR2 : 410 ≤ R.locals) (hcR : cells + 0 ≤ R.cells) (hsR : slots + 0 ≤ R.slots) (hL : LV gm Ks) (hst : l.stackTraces = false) (hW : LW gm Ks) (hG2 : GM2 gm) (Z : Mem) (V : Nat → BS) (acts : Nat → Act) (z n m t : Nat) (ac mcs : Nat → Nat) (cn : Nat) (hS : LWS Z gm V acts z n m t ac mcs cn) (hcn : cn < 59) (d k fd cl : Nat) (hd : d < 6) (hk : k < n) (stt : Nat) (h : Sx D A ad Ks (lay tc ad gm dz (LL Z)) s H locs) (hl : lv_has ls 21 [(14, .int (nI stt)), (13, .int (nI k)), (12, .int (bI true)), (11, .int (nI cl)), (0, .ref (ad (0, 0, 0, 0))), (1, .ref (ad (35, 0, 0, 0))), (2, .ref (ad (37, 0, 0, 0))), (3, .ref (ad (43, 0, 0, 0))), (4, .ref (ad (44, 0, 0, 0))), (5, .ref (ad (41, 0, 0, 0))), (6, .ref (ad (42, 0, 0, 0))), (7, .ref (ad (40, 0, 0, 0))), (8, .ref (ad (45, 0, 0, 0))), (9, .int (nI d)), (10, .int (nI fd))])
    (kk : ∀ (H1 : Heap) (locs1 : List Loc) (ls1 : Array Slot), Sx D A ad Ks (lay tc ad gm dz (LL Z)) s H1 locs1 → lv_has ls1 21 [(15, .int (nI 0)), (14, .int (nI stt)), (13, .int (nI k)), (12, .int (bI true)), (11, .int (nI cl)), (0, .ref (ad (0, 0, 0, 0))), (1, .ref (ad (35, 0, 0, 0))), (2, .ref (ad (37, 0, 0, 0))), (3, .ref (ad (43, 0, 0, 0))), (4, .ref (ad (44, 0, 0, 0))), (5, .ref (ad (41, 0, 0, 0))), (6, .ref (ad (42, 0, 0, 0))), (7, .ref (ad (40, 0, 0, 0))), (8, .ref (ad (45, 0, 0, 0))), (9, .int (nI d)), (10, .int (nI fd))] → W p l e R s mth args below meth c H1 locs1 cells slots Q (F0 mth 138 ls1 [])) : W p l e R s mth args below meth c H locs cells slots Q (F0 mth 135 ls []) := by
  have hok := hS.2.1
  have hn2 := hS.2.2.1
  have hm10 := hS.2.2.2
  have hN := nr_of hS.1.1
  have ht9 : t ≤ 2000 := by have := hS.1.2.2.2.2.2.2.2.2.2.1; omega
  have hBK := lb_bk (G := Z) hS.1 (fun _ _ => rfl)
  have hR9 := lb_rel0 (G := Z) hS.1.1 (fun _ _ => rfl)
  have hC := hR9.cp k d (by omega) hd
  obtain ⟨hx, hb, hmaxL, hown, hts⟩ := id X.1
  refine lv_iconst (v := nI 0) hx hb dL_isDevice_135 (by decide) ?_
  refine lv_istore (lv' := [(15, .int (nI 0)), (14, .int (nI stt)), (13, .int (nI k)), (12, .int (bI true)), (11, .int (nI cl)), (0, .ref (ad (0, 0, 0, 0))), (1, .ref (ad (35, 0, 0, 0))), (2, .ref (ad (37, 0, 0, 0))), (3, .ref (ad (43, 0, 0, 0))), (4, .ref (ad (44, 0, 0, 0))), (5, .ref (ad (41, 0, 0, 0))), (6, .ref (ad (42, 0, 0, 0))), (7, .ref (ad (40, 0, 0, 0))), (8, .ref (ad (45, 0, 0, 0))), (9, .int (nI d)), (10, .int (nI fd))]) hx hb dL_isDevice_136 hl (by decide) rfl (fun ls hl => ?_)
  exact kk H locs ls h (lv_sub hl [0, 1, 2, 3, 4, 5, 6, 7, 8, 9, 10, 11, 12, 13, 14, 15] rfl)

set_option maxHeartbeats 4000000 in
set_option maxRecDepth 100000 in
theorem dv_n (X : Cx p s mth args meth c cL_isDevice yL_isDevice.cls 21 D tc dz A) (hR1 : 13 ≤ R.frames) (hR2 : 410 ≤ R.locals) (hcR : cells + 0 ≤ R.cells) (hsR : slots + 0 ≤ R.slots) (hL : LV gm Ks) (hst : l.stackTraces = false) (hW : LW gm Ks) (hG2 : GM2 gm) (Z : Mem) (V : Nat → BS) (acts : Nat → Act) (z n m t : Nat) (ac mcs : Nat → Nat) (cn : Nat) (hS : LWS Z gm V acts z n m t ac mcs cn) (hcn : cn < 59) (d fd cl : Nat) (hd : d < 6) (h : Sx D A ad Ks (lay tc ad gm dz (LL Z)) s H locs) (hl : lv_has ls 21 [(13, .int (nI n)), (12, .int (bI true)), (11, .int (nI cl)), (0, .ref (ad (0, 0, 0, 0))), (1, .ref (ad (35, 0, 0, 0))), (2, .ref (ad (37, 0, 0, 0))), (3, .ref (ad (43, 0, 0, 0))), (4, .ref (ad (44, 0, 0, 0))), (5, .ref (ad (41, 0, 0, 0))), (6, .ref (ad (42, 0, 0, 0))), (7, .ref (ad (40, 0, 0, 0))), (8, .ref (ad (45, 0, 0, 0))), (9, .int (nI d)), (10, .int (nI fd))])
    (kk : ∀ (H1 : Heap) (locs1 : List Loc) (ls1 : Array Slot), Sx D A ad Ks (lay tc ad gm dz (LL Z)) s H1 locs1 → lv_has ls1 21 [(13, .int (nI n)), (12, .int (bI true)), (11, .int (nI cl)), (0, .ref (ad (0, 0, 0, 0))), (1, .ref (ad (35, 0, 0, 0))), (2, .ref (ad (37, 0, 0, 0))), (3, .ref (ad (43, 0, 0, 0))), (4, .ref (ad (44, 0, 0, 0))), (5, .ref (ad (41, 0, 0, 0))), (6, .ref (ad (42, 0, 0, 0))), (7, .ref (ad (40, 0, 0, 0))), (8, .ref (ad (45, 0, 0, 0))), (9, .int (nI d)), (10, .int (nI fd))] → W p l e R s mth args below meth c H1 locs1 cells slots Q (F0 mth 586 ls1 [])) : W p l e R s mth args below meth c H locs cells slots Q (F0 mth 9 ls []) := by
  have hok := hS.2.1
  have hn2 := hS.2.2.1
  have hm10 := hS.2.2.2
  have hN := nr_of hS.1.1
  have ht9 : t ≤ 2000 := by have := hS.1.2.2.2.2.2.2.2.2.2.1; omega
  have hBK := lb_bk (G := Z) hS.1 (fun _ _ => rfl)
  have hR9 := lb_rel0 (G := Z) hS.1.1 (fun _ _ => rfl)
  obtain ⟨hx, hb, hmaxL, hown, hts⟩ := id X.1
  refine lv_iload hx hb dL_isDevice_9 (lv_at hl 0 rfl) ?_
  refine lv_aload hx hb dL_isDevice_11 (lv_at hl 11 rfl) ?_
  refine lv_iconst (v := nI 0) hx hb dL_isDevice_13 (by decide) ?_
  refine y_ald X h (fun _ => rfl) (by decide) (hL (45, 0, 0, 0) ⟨by decide, rfl, rfl, rfl⟩) (by omega) (v := nI n) (gc_0.trans hN.1) dL_isDevice_14 ?_
  refine n_icmp_ge (tgt := 586) hx hb (by omega) (by omega) dL_isDevice_15 (by decide) (fun _ => ?_) (fun c => absurd c (Nat.lt_irrefl n))
  exact kk H locs ls h (lv_sub hl [0, 1, 2, 3, 4, 5, 6, 7, 8, 9, 10, 11, 12, 13] rfl)

set_option maxHeartbeats 4000000 in
set_option maxRecDepth 100000 in
theorem dv_r (X : Cx p s mth args meth c cL_isDevice yL_isDevice.cls 21 D tc dz A) (hR1 : 13 ≤ R.frames) (hR2 : 410 ≤ R.locals) (hcR : cells + 0 ≤ R.cells) (hsR : slots + 0 ≤ R.slots) (hL : LV gm Ks) (hst : l.stackTraces = false) (hW : LW gm Ks) (hG2 : GM2 gm) (Z : Mem) (V : Nat → BS) (acts : Nat → Act) (z n m t : Nat) (ac mcs : Nat → Nat) (cn : Nat) (hS : LWS Z gm V acts z n m t ac mcs cn) (hcn : cn < 59) (d fd cl : Nat) (hd : d < 6) (hcl : mclN Z d m n = cl) (hc8 : cl ≤ 8) (h : Sx D A ad Ks (lay tc ad gm dz (LL Z)) s H locs) (hl : lv_has ls 21 [(13, .int (nI n)), (12, .int (bI true)), (11, .int (nI cl)), (0, .ref (ad (0, 0, 0, 0))), (1, .ref (ad (35, 0, 0, 0))), (2, .ref (ad (37, 0, 0, 0))), (3, .ref (ad (43, 0, 0, 0))), (4, .ref (ad (44, 0, 0, 0))), (5, .ref (ad (41, 0, 0, 0))), (6, .ref (ad (42, 0, 0, 0))), (7, .ref (ad (40, 0, 0, 0))), (8, .ref (ad (45, 0, 0, 0))), (9, .int (nI d)), (10, .int (nI fd))])
    (kk : ∀ (H1 : Heap) (locs1 : List Loc) (ls1 : Array Slot), Sx D A ad Ks (lay tc ad gm dz (LL Z)) s H1 locs1 → W p l e R s mth args below meth c H1 locs1 cells slots Q (F0 mth 607 ls1 [.int (bI true)])) : W p l e R s mth args below meth c H locs cells slots Q (F0 mth 586 ls []) := by
  have hok := hS.2.1
  have hn2 := hS.2.2.1
  have hm10 := hS.2.2.2
  have hN := nr_of hS.1.1
  have ht9 : t ≤ 2000 := by have := hS.1.2.2.2.2.2.2.2.2.2.1; omega
  have hBK := lb_bk (G := Z) hS.1 (fun _ _ => rfl)
  have hR9 := lb_rel0 (G := Z) hS.1.1 (fun _ _ => rfl)
  obtain ⟨hx, hb, hmaxL, hown, hts⟩ := id X.1
  refine lv_iload hx hb dL_isDevice_586 (lv_at hl 1 rfl) ?_
  refine b_if_eq (tgt := 606) hx hb dL_isDevice_588 (by decide) (fun c => (Bool.noConfusion c)) (fun _ => ?_)
  refine lv_aload_n hx hb dL_isDevice_591 rfl (lv_at hl 3 rfl) ?_
  refine lv_iload hx hb dL_isDevice_592 (lv_at hl 12 rfl) ?_
  refine x_doneI X h (x_runV X h (k := (0, 0, 0, 0)) (m_X6_clashes (LL Z) hL hG2.ok n mcs hBK d hd _) F_X6_clashes q198 q199 q200 (hL (0, 0, 0, 0) ⟨rfl, rfl, rfl⟩) rfl rfl rfl (Nat.le_trans (by decide) hR1) (Nat.le_trans (by decide) hR2) ⟨by omega, by omega⟩ hl.1 (Nat.le_of_ble_eq_true rfl) dL_isDevice_594 rfl) (fun H locs h => ?_)
  rw [rl_cln hR9 hd n (by omega), hcl]
  refine lv_iload hx hb dL_isDevice_597 (lv_at hl 2 rfl) ?_
  refine n_icmp_ne (tgt := 606) hx hb (by omega) (by omega) dL_isDevice_599 (by decide) (fun c => absurd rfl c) (fun _ => ?_)
  refine lv_iconst (v := nI 1) hx hb dL_isDevice_602 (by decide) ?_
  refine lv_goto (tgt := 607) hx hb dL_isDevice_603 (by decide) ?_
  exact kk H locs ls h
end SEGS
