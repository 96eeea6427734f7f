theorem shP_of {Y : Mem} {d o e f : Nat} (h1 : mayB Y d e f = true) (h2 : mayB Y o e f = true) : shP Y d o e f = true := by
  unfold shP
  rw [h1, h2]
  rfl
theorem shP_n1 {Y : Mem} {d o e f : Nat} (h1 : mayB Y d e f = false) : shP Y d o e f = false := by
  unfold shP
  rw [h1, Bool.false_and]
theorem shP_n2 {Y : Mem} {d o e f : Nat} (h2 : mayB Y o e f = false) : shP Y d o e f = false := by
  unfold shP
  rw [h2, Bool.and_false]
theorem sum_int {Y : Mem} (hT : TR Y) (x y : Nat) : (Y (42, 0, 0, 0) x + Y (42, 0, 0, 0) y).toInt = (Y (42, 0, 0, 0) x).toInt + (Y (42, 0, 0, 0) y).toInt := by
  have h1 := hT x
  have h2 := hT y
  rw [Int32.toInt_add]
  exact Int.bmod_eq_of_le (by omega) (by omega)
theorem kmk_int {Y : Mem} {d k : Nat} : kmk Y d k = decide (0 < (Y (42, 0, 0, 0) (6 * k + d)).toInt) := by
  unfold kmk
  by_cases q : 0 < Y (42, 0, 0, 0) (6 * k + d)
  · rw [decide_eq_true q]
    rw [Int32.lt_iff_toInt_lt, i_zero] at q
    rw [decide_eq_true q]
  · rw [decide_eq_false q]
    rw [Int32.lt_iff_toInt_lt, i_zero] at q
    rw [decide_eq_false q]
theorem sum_f {Y : Mem} (hT : TR Y) {d o j : Nat} (h : Y (42, 0, 0, 0) (6 * j + d) + Y (42, 0, 0, 0) (6 * j + o) ≤ 0) : (kmk Y d j || kmk Y o j) = false := by
  rw [Int32.le_iff_toInt_le, i_zero, sum_int hT] at h
  have h1 := hT (6 * j + d)
  have h2 := hT (6 * j + o)
  rw [kmk_int, kmk_int, decide_eq_false (by omega), decide_eq_false (by omega)]
  rfl
theorem sum_t {Y : Mem} (hT : TR Y) {d o j : Nat} (h : ¬ Y (42, 0, 0, 0) (6 * j + d) + Y (42, 0, 0, 0) (6 * j + o) ≤ 0) : (kmk Y d j || kmk Y o j) = true := by
  rw [Int32.le_iff_toInt_le, i_zero, sum_int hT] at h
  have h1 := hT (6 * j + d)
  have h2 := hT (6 * j + o)
  rw [kmk_int, kmk_int]
  by_cases q : 0 < (Y (42, 0, 0, 0) (6 * j + d)).toInt
  · rw [decide_eq_true q, Bool.true_or]
  · rw [decide_eq_true (show 0 < (Y (42, 0, 0, 0) (6 * j + o)).toInt by omega), Bool.or_true]
theorem tv_n {Y : Mem} {d o e j d2 : Nat} (h : (mo Y e j && (kmk Y d j || kmk Y o j)) = false) : tvN Y d o e j d2 = Y (42, 0, 0, 0) (6 * j + d2) := by
  unfold tvN
  rw [if_neg]
  rintro ⟨z1, z2, -⟩
  rw [z1, z2] at h
  cases h
theorem kmk_ne0 {Y : Mem} (hT : TR Y) {d k : Nat} (h : ¬ Y (42, 0, 0, 0) (6 * k + d) = 0) : kmk Y d k = true := by
  have h1 := hT (6 * k + d)
  rw [kmk_int]
  refine decide_eq_true ?_
  have : (Y (42, 0, 0, 0) (6 * k + d)).toInt ≠ 0 := fun z => h (i_ext (z.trans i_zero.symm))
  omega
theorem tv_k {Y : Mem} {d o e j d2 : Nat} (h : (mo Y e j && (kmk Y d j || kmk Y o j)) = true) (hT : TR Y) (h2 : ¬ Y (42, 0, 0, 0) (6 * j + d2) = 0) : tvN Y d o e j d2 = Y (42, 0, 0, 0) (6 * j + d2) := by
  unfold tvN
  rw [if_neg]
  rintro ⟨-, -, z⟩
  rw [kmk_ne0 hT h2] at z
  cases z
theorem tv_y {Y : Mem} {d o e j d2 t : Nat} (h : (mo Y e j && (kmk Y d j || kmk Y o j)) = true) (h2 : Y (42, 0, 0, 0) (6 * j + d2) = 0) (ht : Y (30, 0, 0, 0) 0 = nI t) : tvN Y d o e j d2 = nI (t + 1) := by
  rw [Bool.and_eq_true] at h
  unfold tvN
  rw [if_pos ⟨h.1, h.2, by unfold kmk; rw [h2]; exact decide_eq_false (by decide)⟩, ht, nI_add]

set_option maxHeartbeats 4000000 in
set_option maxRecDepth 100000 in
theorem m_L_mayZ {l : Launch} {D : va_G} {tc : TC} {dz : Nat} {ad : KN → Nat} {Ks : List KN} {gm : GM} (Y : Mem) (hL : LV gm Ks) (Z : Mem) (hZ : Z (44, 0, 0, 0) = LL Y (44, 0, 0, 0)) (d e : Nat) (hd : d < 6) (he : e < 2) (f : Nat) (hf : f < 4) : MI l yL_may cL_may 4 (Option.some ClassFile.FieldType.boolean) 0 D tc dz ad Ks (lay tc ad gm dz Z) [.ref (ad (44, 0, 0, 0)), .int (nI d), .int (nI e), .int (nI f)] (bI (mayB Y d e f)) (lay tc ad gm dz Z) := by
  intro sz
  refine x_ofW (by decide +kernel) (Nat.le_of_ble_eq_true rfl) (fun pp ee s mm bel meth cd ls X hr hin hz h hl => ?_)
  subst hz
  obtain ⟨hx, hb, hmaxL, hown, hts⟩ := id X.1
  have hl : lv_has ls 4 [(0, .ref (ad (44, 0, 0, 0))), (1, .int (nI d)), (2, .int (nI e)), (3, .int (nI f))] := hl
  refine lv_aload_n hx hb dL_may_0 rfl (lv_at hl 0 rfl) ?_
  refine lv_iconst (v := nI 4) hx hb dL_may_1 (by decide) ?_
  refine lv_iload_n hx hb dL_may_2 rfl (lv_at hl 2 rfl) ?_
  refine n_imul hx hb dL_may_3 ?_
  refine y_ald X h (fun _ => rfl) (by decide) (hL (44, 0, 0, 0) ⟨by decide, rfl, rfl, rfl⟩) (by omega) (v := LL Y (44, 0, 0, 0) (4 * e)) (congrFun hZ _) dL_may_4 ?_
  refine lv_iload_n hx hb dL_may_5 rfl (lv_at hl 1 rfl) ?_
  refine lv_iconst (v := nI 2) hx hb dL_may_6 (by decide) ?_
  refine n_idiv hx hb (by omega) (by omega) (by omega) dL_may_7 ?_
  refine lv_icmp_eq (tgt := 30) hx hb dL_may_8 (by decide) (fun c_8 => ?_) (fun c_8 => ?_)
  · skip
    have hq : mayB Y d e f = true := by unfold mayB; rw [if_pos (wc_ow.symm.trans c_8)]
    refine lv_iconst (v := nI 1) hx hb dL_may_30 (by decide) ?_
    refine lv_goto (tgt := 35) hx hb dL_may_31 (by decide) ?_
    rw [lb_t hq]
    exact x_iret X h hr (bI_nar _) rfl (fun _ _ => rfl) dL_may_35
  · skip
    refine lv_aload_n hx hb dL_may_11 rfl (lv_at hl 0 rfl) ?_
    refine lv_iconst (v := nI 4) hx hb dL_may_12 (by decide) ?_
    refine lv_iload_n hx hb dL_may_13 rfl (lv_at hl 2 rfl) ?_
    refine n_imul hx hb dL_may_14 ?_
    refine lv_iconst (v := nI 1) hx hb dL_may_15 (by decide) ?_
    refine n_iadd hx hb dL_may_16 ?_
    refine lv_iload_n hx hb dL_may_17 rfl (lv_at hl 1 rfl) ?_
    refine lv_iconst (v := nI 2) hx hb dL_may_18 (by decide) ?_
    refine n_idiv hx hb (by omega) (by omega) (by omega) dL_may_19 ?_
    refine n_iadd hx hb dL_may_20 ?_
    refine y_ald X h (fun _ => rfl) (by decide) (hL (44, 0, 0, 0) ⟨by decide, rfl, rfl, rfl⟩) (by omega) (v := LL Y (44, 0, 0, 0) (4 * e + 1 + d / 2)) (congrFun hZ _) dL_may_21 ?_
    refine lv_iload_n hx hb dL_may_22 rfl (lv_at hl 3 rfl) ?_
    refine lv_ishr hx hb dL_may_23 ?_
    refine lv_iconst (v := nI 1) hx hb dL_may_24 (by decide) ?_
    refine lv_iand hx hb dL_may_25 ?_
    refine lv_iconst (v := nI 1) hx hb dL_may_26 (by decide) ?_
    refine lv_icmp_ne (tgt := 34) hx hb dL_may_27 (by decide) (fun c_27 => ?_) (fun c_27 => ?_)
    · skip
      have hq : mayB Y d e f = false := by unfold mayB; rw [if_neg (fun z => c_8 (wc_ow.trans z)), ← wc_sh (X := Y) (e := e) (q := d / 2) (by omega)]; exact bit_f c_27
      refine lv_iconst (v := nI 0) hx hb dL_may_34 (by decide) ?_
      rw [lb_f hq]
      exact x_iret X h hr (bI_nar _) rfl (fun _ _ => rfl) dL_may_35
    · skip
      have hq : mayB Y d e f = true := by unfold mayB; rw [if_neg (fun z => c_8 (wc_ow.trans z)), ← wc_sh (X := Y) (e := e) (q := d / 2) (by omega)]; exact bit_t c_27
      refine lv_iconst (v := nI 1) hx hb dL_may_30 (by decide) ?_
      refine lv_goto (tgt := 35) hx hb dL_may_31 (by decide) ?_
      rw [lb_t hq]
      exact x_iret X h hr (bI_nar _) rfl (fun _ _ => rfl) dL_may_35

set_option maxHeartbeats 4000000 in
set_option maxRecDepth 100000 in
theorem m_L_joins {l : Launch} {D : va_G} {tc : TC} {dz : Nat} {ad : KN → Nat} {Ks : List KN} {gm : GM} (Y : Mem) (hL : LV gm Ks) (hW : LW gm Ks) (hB : BR Y) (hT : TR Y) (hK : K01 Y) (n m t : Nat) (hN : NR Y n m t) (hn2 : n ≤ 2) (hm10 : m ≤ 10) (ht9 : t ≤ 2000) (d o e : Nat) (hd : d < 6) (ho : o < 6) (he : e < 2) (hne : d ≠ o) : MI l yL_joins cL_joins 16 (Option.some ClassFile.FieldType.int) 3 D tc dz ad Ks (lay tc ad gm dz (LL Y)) [.ref (ad (35, 0, 0, 0)), .ref (ad (37, 0, 0, 0)), .ref (ad (43, 0, 0, 0)), .ref (ad (44, 0, 0, 0)), .ref (ad (42, 0, 0, 0)), .ref (ad (40, 0, 0, 0)), .ref (ad (45, 0, 0, 0)), .int (nI d), .int (nI o), .int (nI e)] (nI (lgN Y d o e 4)) (lay tc ad gm dz (LL (joiM Y d o e m))) := by
  intro sz
  have hg0 : LL Y (45, 0, 0, 0) 0 = nI n := gc_0.trans hN.1
  have hg1 : LL Y (45, 0, 0, 0) 1 = nI t := gc_1.trans hN.2.1
  have hg2 : LL Y (45, 0, 0, 0) 2 = nI m := gc_2.trans hN.2.2
  obtain ⟨ka, kb, hka, hkb, h34, h38, h43⟩ := hK.at (d := d) he
  obtain ⟨oa, ob, hoa, hob, o34, o38, o43⟩ := hK.at (d := o) he
  have hlg := lgN_le Y d o e
  refine x_ofW (by decide +kernel) (Nat.le_of_ble_eq_true rfl) (fun pp ee s mm bel meth cd ls X hr hin hz h hl => ?_)
  subst hz
  obtain ⟨hx, hb, hmaxL, hown, hts⟩ := id X.1
  have hl : lv_has ls 16 [(0, .ref (ad (35, 0, 0, 0))), (1, .ref (ad (37, 0, 0, 0))), (2, .ref (ad (43, 0, 0, 0))), (3, .ref (ad (44, 0, 0, 0))), (4, .ref (ad (42, 0, 0, 0))), (5, .ref (ad (40, 0, 0, 0))), (6, .ref (ad (45, 0, 0, 0))), (7, .int (nI d)), (8, .int (nI o)), (9, .int (nI e))] := hl
  refine lv_iconst (v := nI 0) hx hb dL_joins_0 (by decide) ?_
  refine lv_istore (lv' := [(10, .int (nI 0)), (0, .ref (ad (35, 0, 0, 0))), (1, .ref (ad (37, 0, 0, 0))), (2, .ref (ad (43, 0, 0, 0))), (3, .ref (ad (44, 0, 0, 0))), (4, .ref (ad (42, 0, 0, 0))), (5, .ref (ad (40, 0, 0, 0))), (6, .ref (ad (45, 0, 0, 0))), (7, .int (nI d)), (8, .int (nI o)), (9, .int (nI e))]) hx hb dL_joins_1 hl (by decide) rfl (fun ls hl => ?_)
  refine lv_iconst (v := nI 0) hx hb dL_joins_3 (by decide) ?_
  refine lv_istore (lv' := [(11, .int (nI 0)), (10, .int (nI 0)), (0, .ref (ad (35, 0, 0, 0))), (1, .ref (ad (37, 0, 0, 0))), (2, .ref (ad (43, 0, 0, 0))), (3, .ref (ad (44, 0, 0, 0))), (4, .ref (ad (42, 0, 0, 0))), (5, .ref (ad (40, 0, 0, 0))), (6, .ref (ad (45, 0, 0, 0))), (7, .int (nI d)), (8, .int (nI o)), (9, .int (nI e))]) hx hb dL_joins_4 hl (by decide) rfl (fun ls hl => ?_)
  refine y_loop (D := D) (A := wA ad Ks s.heap.size) (ad := ad) (Ks := Ks) (nL := 16) (fun f : Nat => lay tc ad gm dz (JM Y d o e f)) (fun f => [(11, .int (nI f)), (10, .int (nI (lgN Y d o e f))), (0, .ref (ad (35, 0, 0, 0))), (1, .ref (ad (37, 0, 0, 0))), (2, .ref (ad (43, 0, 0, 0))), (3, .ref (ad (44, 0, 0, 0))), (4, .ref (ad (42, 0, 0, 0))), (5, .ref (ad (40, 0, 0, 0))), (6, .ref (ad (45, 0, 0, 0))), (7, .int (nI d)), (8, .int (nI o)), (9, .int (nI e))]) (fun _ => []) (fun f : Nat => f ≤ 4) (fun f => 4 - f) (fun f hi6 ih6 H locs ls h hl => ?_) 0 (Nat.zero_le _) (h.eq (congrArg (lay tc ad gm dz) (JM_0 Y d o e))) (lv_sub hl [0, 1, 2, 3, 4, 5, 6, 7, 8, 9, 10, 11] rfl) rfl
  have h : Sx D (wA ad Ks s.heap.size) ad Ks (lay tc ad gm dz (JM Y d o e f)) s H locs := h
  have hl : lv_has ls 16 [(11, .int (nI f)), (10, .int (nI (lgN Y d o e f))), (0, .ref (ad (35, 0, 0, 0))), (1, .ref (ad (37, 0, 0, 0))), (2, .ref (ad (43, 0, 0, 0))), (3, .ref (ad (44, 0, 0, 0))), (4, .ref (ad (42, 0, 0, 0))), (5, .ref (ad (40, 0, 0, 0))), (6, .ref (ad (45, 0, 0, 0))), (7, .int (nI d)), (8, .int (nI o)), (9, .int (nI e))] := hl
  refine lv_iload hx hb dL_joins_6 (lv_at hl 0 rfl) ?_
  refine lv_iconst (v := nI 4) hx hb dL_joins_8 (by decide) ?_
  refine n_icmp_ge (tgt := 146) hx hb (by omega) (by omega) dL_joins_9 (by decide) (fun c_9 => ?_) (fun c_9 => ?_)
  · skip
    have him : f = 4 := by omega
    rw [him] at h hl
    refine lv_iconst (v := nI 0) hx hb dL_joins_146 (by decide) ?_
    refine lv_istore (lv' := [(11, .int (nI 0)), (10, .int (nI (lgN Y d o e 4))), (0, .ref (ad (35, 0, 0, 0))), (1, .ref (ad (37, 0, 0, 0))), (2, .ref (ad (43, 0, 0, 0))), (3, .ref (ad (44, 0, 0, 0))), (4, .ref (ad (42, 0, 0, 0))), (5, .ref (ad (40, 0, 0, 0))), (6, .ref (ad (45, 0, 0, 0))), (7, .int (nI d)), (8, .int (nI o)), (9, .int (nI e))]) hx hb dL_joins_147 hl (by decide) rfl (fun ls hl => ?_)
    refine y_loop (D := D) (A := wA ad Ks s.heap.size) (ad := ad) (Ks := Ks) (nL := 16) (fun j : Nat => lay tc ad gm dz (KM Y d o e j)) (fun j => [(11, .int (nI j)), (10, .int (nI (lgN Y d o e 4))), (0, .ref (ad (35, 0, 0, 0))), (1, .ref (ad (37, 0, 0, 0))), (2, .ref (ad (43, 0, 0, 0))), (3, .ref (ad (44, 0, 0, 0))), (4, .ref (ad (42, 0, 0, 0))), (5, .ref (ad (40, 0, 0, 0))), (6, .ref (ad (45, 0, 0, 0))), (7, .int (nI d)), (8, .int (nI o)), (9, .int (nI e))]) (fun _ => []) (fun j : Nat => j ≤ m) (fun j => m - j) (fun j hi149 ih149 H locs ls h hl => ?_) 0 (Nat.zero_le _) (h.eq (congrArg (lay tc ad gm dz) (KM_0 Y d o e))) (lv_sub hl [0, 1, 2, 3, 4, 5, 6, 7, 8, 9, 10, 11] rfl) rfl
    have h : Sx D (wA ad Ks s.heap.size) ad Ks (lay tc ad gm dz (KM Y d o e j)) s H locs := h
    have hl : lv_has ls 16 [(11, .int (nI j)), (10, .int (nI (lgN Y d o e 4))), (0, .ref (ad (35, 0, 0, 0))), (1, .ref (ad (37, 0, 0, 0))), (2, .ref (ad (43, 0, 0, 0))), (3, .ref (ad (44, 0, 0, 0))), (4, .ref (ad (42, 0, 0, 0))), (5, .ref (ad (40, 0, 0, 0))), (6, .ref (ad (45, 0, 0, 0))), (7, .int (nI d)), (8, .int (nI o)), (9, .int (nI e))] := hl
    refine lv_iload hx hb dL_joins_149 (lv_at hl 0 rfl) ?_
    refine lv_aload hx hb dL_joins_151 (lv_at hl 8 rfl) ?_
    refine lv_iconst (v := nI 2) hx hb dL_joins_153 (by decide) ?_
    refine y_ald X h (fun _ => rfl) (by decide) (hL (45, 0, 0, 0) ⟨by decide, rfl, rfl, rfl⟩) (by omega) (v := nI m) ((congrFun ((KM_see (by decide)).trans (JM_see (by decide) (by decide))) 2).trans hg2) dL_joins_154 ?_
    refine n_icmp_ge (tgt := 307) hx hb (by omega) (by omega) dL_joins_155 (by decide) (fun c_155 => ?_) (fun c_155 => ?_)
    · skip
      have him : j = m := by omega
      rw [him] at h
      refine lv_aload_n hx hb dL_joins_307 rfl (lv_at hl 4 rfl) ?_
      refine lv_iconst (v := nI 2) hx hb dL_joins_308 (by decide) ?_
      refine lv_iload hx hb dL_joins_309 (lv_at hl 9 rfl) ?_
      refine n_imul hx hb dL_joins_311 ?_
      refine lv_iload hx hb dL_joins_312 (lv_at hl 11 rfl) ?_
      refine n_iadd hx hb dL_joins_314 ?_
      refine lv_dup2_11 hx hb dL_joins_315 rfl rfl ?_
      refine y_ald X h (fun _ => rfl) (by decide) (hL (43, 0, 0, 0) ⟨by decide, rfl, rfl, rfl⟩) (by omega) (v := nI (ka + 2 * kb)) ((congrFun ((KM_see (by decide)).trans (JM_see (by decide) (by decide))) _).trans h43) dL_joins_316 ?_
      refine lv_iconst (v := nI 1) hx hb dL_joins_317 (by decide) ?_
      refine lv_ior hx hb dL_joins_318 ?_
      rw [show (nI (ka + 2 * kb)) ||| (nI 1) = nI (1 + 2 * kb) from or1 hka hkb]
      refine y_ast X h (fun _ => rfl) (by decide) (hL (43, 0, 0, 0) ⟨by decide, rfl, rfl, rfl⟩) (by omega) dL_joins_319 (fun H locs h => ?_)
      refine lv_aload_n hx hb dL_joins_320 rfl (lv_at hl 4 rfl) ?_
      refine lv_iconst (v := nI 2) hx hb dL_joins_321 (by decide) ?_
      refine lv_iload hx hb dL_joins_322 (lv_at hl 10 rfl) ?_
      refine n_imul hx hb dL_joins_324 ?_
      refine lv_iload hx hb dL_joins_325 (lv_at hl 11 rfl) ?_
      refine n_iadd hx hb dL_joins_327 ?_
      refine lv_dup2_11 hx hb dL_joins_328 rfl rfl ?_
      refine y_ald X h (fun _ => rfl) (by decide) (hL (43, 0, 0, 0) ⟨by decide, rfl, rfl, rfl⟩) (by omega) (v := nI (oa + 2 * ob)) ((congrFun (sset_eq _ _ _) _).trans ((ud_ne _ _ (by omega)).trans ((congrFun ((KM_see (by decide)).trans (JM_see (by decide) (by decide))) _).trans o43))) dL_joins_329 ?_
      refine lv_iconst (v := nI 1) hx hb dL_joins_330 (by decide) ?_
      refine lv_ior hx hb dL_joins_331 ?_
      rw [show (nI (oa + 2 * ob)) ||| (nI 1) = nI (1 + 2 * ob) from or1 hoa hob]
      refine y_ast X h (fun _ => rfl) (by decide) (hL (43, 0, 0, 0) ⟨by decide, rfl, rfl, rfl⟩) (by omega) dL_joins_332 (fun H locs h => ?_)
      have h := h.law hW (joi_LAe hd ho he hne h38 o38)
      refine lv_iload hx hb dL_joins_333 (lv_at hl 1 rfl) ?_
      exact x_iret X h hr rfl rfl (fun _ _ => rfl) dL_joins_335
    · skip
      refine lv_aload hx hb dL_joins_158 (lv_at hl 7 rfl) ?_
      refine lv_iload hx hb dL_joins_160 (lv_at hl 0 rfl) ?_
      refine y_ald X h (fun _ => rfl) (by decide) (hL (40, 0, 0, 0) ⟨by decide, rfl, rfl, rfl⟩) (by omega) (v := Y (40, 0, 0, 0) j) (congrFun ((KM_see (by decide)).trans ((JM_see (by decide) (by decide)).trans (LL_see (by decide)))) _) dL_joins_162 ?_
      refine lv_iload hx hb dL_joins_163 (lv_at hl 11 rfl) ?_
      refine lv_icmp_ne (tgt := 198) hx hb dL_joins_165 (by decide) (fun c_165 => ?_) (fun c_165 => ?_)
      · skip
        have hq : (mo Y e j && (kmk Y d j || kmk Y o j)) = false := by rw [mo_f c_165, Bool.false_and]
        refine lv_iconst (v := nI 0) hx hb dL_joins_198 (by decide) ?_
        rw [lb_f hq]
        refine lv_istore (lv' := [(12, .int (bI (mo Y e j && (kmk Y d j || kmk Y o j)))), (11, .int (nI j)), (10, .int (nI (lgN Y d o e 4))), (0, .ref (ad (35, 0, 0, 0))), (1, .ref (ad (37, 0, 0, 0))), (2, .ref (ad (43, 0, 0, 0))), (3, .ref (ad (44, 0, 0, 0))), (4, .ref (ad (42, 0, 0, 0))), (5, .ref (ad (40, 0, 0, 0))), (6, .ref (ad (45, 0, 0, 0))), (7, .int (nI d)), (8, .int (nI o)), (9, .int (nI e))]) hx hb dL_joins_199 hl (by decide) rfl (fun ls hl => ?_)
        refine lv_aload hx hb dL_joins_201 (lv_at hl 7 rfl) ?_
        refine lv_bipush (v := nI 6) hx hb dL_joins_203 (by decide) ?_
        refine lv_iload hx hb dL_joins_205 (lv_at hl 1 rfl) ?_
        refine n_imul hx hb dL_joins_207 ?_
        refine lv_iload hx hb dL_joins_208 (lv_at hl 10 rfl) ?_
        refine n_iadd hx hb dL_joins_210 ?_
        refine lv_iload hx hb dL_joins_211 (lv_at hl 0 rfl) ?_
        refine b_if_eq (tgt := 239) hx hb dL_joins_213 (by decide) (fun c_213 => ?_) (fun c_213 => ?_)
        · skip
          have hv : Y (42, 0, 0, 0) (6 * j + d) = tvN Y d o e j d := (tv_n c_213).symm
          have hw : Y (42, 0, 0, 0) (6 * j + o) = tvN Y d o e j o := (tv_n c_213).symm
          refine lv_aload hx hb dL_joins_239 (lv_at hl 7 rfl) ?_
          refine lv_bipush (v := nI 6) hx hb dL_joins_241 (by decide) ?_
          refine lv_iload hx hb dL_joins_243 (lv_at hl 1 rfl) ?_
          refine n_imul hx hb dL_joins_245 ?_
          refine lv_iload hx hb dL_joins_246 (lv_at hl 10 rfl) ?_
          refine n_iadd hx hb dL_joins_248 ?_
          refine y_ald X h (fun _ => rfl) (by decide) (hL (42, 0, 0, 0) ⟨by decide, rfl, rfl, rfl⟩) (by omega) (v := Y (42, 0, 0, 0) (6 * j + d)) (KM_at hd ho hne hd) dL_joins_249 ?_
          refine y_ast X h (fun _ => rfl) (by decide) (hL (42, 0, 0, 0) ⟨by decide, rfl, rfl, rfl⟩) (by omega) dL_joins_250 (fun H locs h => ?_)
          refine lv_aload hx hb dL_joins_251 (lv_at hl 7 rfl) ?_
          refine lv_bipush (v := nI 6) hx hb dL_joins_253 (by decide) ?_
          refine lv_iload hx hb dL_joins_255 (lv_at hl 1 rfl) ?_
          refine n_imul hx hb dL_joins_257 ?_
          refine lv_iload hx hb dL_joins_258 (lv_at hl 11 rfl) ?_
          refine n_iadd hx hb dL_joins_260 ?_
          refine lv_iload hx hb dL_joins_261 (lv_at hl 0 rfl) ?_
          refine b_if_eq (tgt := 289) hx hb dL_joins_263 (by decide) (fun _ => ?_) (fun c => by rw [c_213] at c; cases c)
          refine lv_aload hx hb dL_joins_289 (lv_at hl 7 rfl) ?_
          refine lv_bipush (v := nI 6) hx hb dL_joins_291 (by decide) ?_
          refine lv_iload hx hb dL_joins_293 (lv_at hl 1 rfl) ?_
          refine n_imul hx hb dL_joins_295 ?_
          refine lv_iload hx hb dL_joins_296 (lv_at hl 11 rfl) ?_
          refine n_iadd hx hb dL_joins_298 ?_
          refine y_ald X h (fun _ => rfl) (by decide) (hL (42, 0, 0, 0) ⟨by decide, rfl, rfl, rfl⟩) (by omega) (v := Y (42, 0, 0, 0) (6 * j + o)) ((congrFun (sset_eq _ _ _) _).trans ((ud_ne _ _ (by omega)).trans (KM_at hd ho hne ho))) dL_joins_299 ?_
          refine y_ast X h (fun _ => rfl) (by decide) (hL (42, 0, 0, 0) ⟨by decide, rfl, rfl, rfl⟩) (by omega) dL_joins_300 (fun H locs h => ?_)
          have h := h.law hW (K_s hd ho hne hv hw)
          refine n_iinc (j := j) (n := 1) (lv' := [(11, .int (nI (j + 1))), (12, .int (bI (mo Y e j && (kmk Y d j || kmk Y o j)))), (10, .int (nI (lgN Y d o e 4))), (0, .ref (ad (35, 0, 0, 0))), (1, .ref (ad (37, 0, 0, 0))), (2, .ref (ad (43, 0, 0, 0))), (3, .ref (ad (44, 0, 0, 0))), (4, .ref (ad (42, 0, 0, 0))), (5, .ref (ad (40, 0, 0, 0))), (6, .ref (ad (45, 0, 0, 0))), (7, .int (nI d)), (8, .int (nI o)), (9, .int (nI e))]) hx hb dL_joins_301 hl (k := 1) rfl (by decide) (by decide) rfl (fun ls hl => ?_)
          refine lv_goto (tgt := 149) hx hb dL_joins_304 (by decide) ?_
          exact ih149 (j + 1) (by omega) (by omega) H locs ls (h.eq (congrArg (lay tc ad gm dz) rfl)) (lv_sub hl [0, 2, 3, 4, 5, 6, 7, 8, 9, 10, 11, 12] rfl)
        · skip
          refine lv_aload hx hb dL_joins_216 (lv_at hl 7 rfl) ?_
          refine lv_bipush (v := nI 6) hx hb dL_joins_218 (by decide) ?_
          refine lv_iload hx hb dL_joins_220 (lv_at hl 1 rfl) ?_
          refine n_imul hx hb dL_joins_222 ?_
          refine lv_iload hx hb dL_joins_223 (lv_at hl 10 rfl) ?_
          refine n_iadd hx hb dL_joins_225 ?_
          refine y_ald X h (fun _ => rfl) (by decide) (hL (42, 0, 0, 0) ⟨by decide, rfl, rfl, rfl⟩) (by omega) (v := Y (42, 0, 0, 0) (6 * j + d)) (KM_at hd ho hne hd) dL_joins_226 ?_
          refine lv_if_ne (tgt := 239) hx hb dL_joins_227 (by decide) (fun c_227 => ?_) (fun c_227 => ?_)
          · skip
            have hv : Y (42, 0, 0, 0) (6 * j + d) = tvN Y d o e j d := (tv_k c_213 hT c_227).symm
            refine lv_aload hx hb dL_joins_239 (lv_at hl 7 rfl) ?_
            refine lv_bipush (v := nI 6) hx hb dL_joins_241 (by decide) ?_
            refine lv_iload hx hb dL_joins_243 (lv_at hl 1 rfl) ?_
            refine n_imul hx hb dL_joins_245 ?_
            refine lv_iload hx hb dL_joins_246 (lv_at hl 10 rfl) ?_
            refine n_iadd hx hb dL_joins_248 ?_
            refine y_ald X h (fun _ => rfl) (by decide) (hL (42, 0, 0, 0) ⟨by decide, rfl, rfl, rfl⟩) (by omega) (v := Y (42, 0, 0, 0) (6 * j + d)) (KM_at hd ho hne hd) dL_joins_249 ?_
            refine y_ast X h (fun _ => rfl) (by decide) (hL (42, 0, 0, 0) ⟨by decide, rfl, rfl, rfl⟩) (by omega) dL_joins_250 (fun H locs h => ?_)
            refine lv_aload hx hb dL_joins_251 (lv_at hl 7 rfl) ?_
            refine lv_bipush (v := nI 6) hx hb dL_joins_253 (by decide) ?_
            refine lv_iload hx hb dL_joins_255 (lv_at hl 1 rfl) ?_
            refine n_imul hx hb dL_joins_257 ?_
            refine lv_iload hx hb dL_joins_258 (lv_at hl 11 rfl) ?_
            refine n_iadd hx hb dL_joins_260 ?_
            refine lv_iload hx hb dL_joins_261 (lv_at hl 0 rfl) ?_
            refine b_if_eq (tgt := 289) hx hb dL_joins_263 (by decide) (fun c => by rw [c_213] at c; cases c) (fun _ => ?_)
            refine lv_aload hx hb dL_joins_266 (lv_at hl 7 rfl) ?_
            refine lv_bipush (v := nI 6) hx hb dL_joins_268 (by decide) ?_
            refine lv_iload hx hb dL_joins_270 (lv_at hl 1 rfl) ?_
            refine n_imul hx hb dL_joins_272 ?_
            refine lv_iload hx hb dL_joins_273 (lv_at hl 11 rfl) ?_
            refine n_iadd hx hb dL_joins_275 ?_
            refine y_ald X h (fun _ => rfl) (by decide) (hL (42, 0, 0, 0) ⟨by decide, rfl, rfl, rfl⟩) (by omega) (v := Y (42, 0, 0, 0) (6 * j + o)) ((congrFun (sset_eq _ _ _) _).trans ((ud_ne _ _ (by omega)).trans (KM_at hd ho hne ho))) dL_joins_276 ?_
            refine lv_if_ne (tgt := 289) hx hb dL_joins_277 (by decide) (fun c_277 => ?_) (fun c_277 => ?_)
            · skip
              have hw : Y (42, 0, 0, 0) (6 * j + o) = tvN Y d o e j o := (tv_k c_213 hT c_277).symm
              refine lv_aload hx hb dL_joins_289 (lv_at hl 7 rfl) ?_
              refine lv_bipush (v := nI 6) hx hb dL_joins_291 (by decide) ?_
              refine lv_iload hx hb dL_joins_293 (lv_at hl 1 rfl) ?_
              refine n_imul hx hb dL_joins_295 ?_
              refine lv_iload hx hb dL_joins_296 (lv_at hl 11 rfl) ?_
              refine n_iadd hx hb dL_joins_298 ?_
              refine y_ald X h (fun _ => rfl) (by decide) (hL (42, 0, 0, 0) ⟨by decide, rfl, rfl, rfl⟩) (by omega) (v := Y (42, 0, 0, 0) (6 * j + o)) ((congrFun (sset_eq _ _ _) _).trans ((ud_ne _ _ (by omega)).trans (KM_at hd ho hne ho))) dL_joins_299 ?_
              refine y_ast X h (fun _ => rfl) (by decide) (hL (42, 0, 0, 0) ⟨by decide, rfl, rfl, rfl⟩) (by omega) dL_joins_300 (fun H locs h => ?_)
              have h := h.law hW (K_s hd ho hne hv hw)
              refine n_iinc (j := j) (n := 1) (lv' := [(11, .int (nI (j + 1))), (12, .int (bI (mo Y e j && (kmk Y d j || kmk Y o j)))), (10, .int (nI (lgN Y d o e 4))), (0, .ref (ad (35, 0, 0, 0))), (1, .ref (ad (37, 0, 0, 0))), (2, .ref (ad (43, 0, 0, 0))), (3, .ref (ad (44, 0, 0, 0))), (4, .ref (ad (42, 0, 0, 0))), (5, .ref (ad (40, 0, 0, 0))), (6, .ref (ad (45, 0, 0, 0))), (7, .int (nI d)), (8, .int (nI o)), (9, .int (nI e))]) hx hb dL_joins_301 hl (k := 1) rfl (by decide) (by decide) rfl (fun ls hl => ?_)
              refine lv_goto (tgt := 149) hx hb dL_joins_304 (by decide) ?_
              exact ih149 (j + 1) (by omega) (by omega) H locs ls (h.eq (congrArg (lay tc ad gm dz) rfl)) (lv_sub hl [0, 2, 3, 4, 5, 6, 7, 8, 9, 10, 11, 12] rfl)
            · skip
              have hw : nI (t + 1) = tvN Y d o e j o := (tv_y c_213 c_277 hN.2.1).symm
              refine lv_aload hx hb dL_joins_280 (lv_at hl 9 rfl) ?_
              refine lv_iconst (v := nI 1) hx hb dL_joins_282 (by decide) ?_
              refine y_ald X h (fun _ => rfl) (by decide) (hL (45, 0, 0, 0) ⟨by decide, rfl, rfl, rfl⟩) (by omega) (v := nI t) ((congrFun (sset_ne _ _ (nek (by decide))) _).trans ((congrFun ((KM_see (by decide)).trans (JM_see (by decide) (by decide))) 1).trans hg1)) dL_joins_283 ?_
              refine lv_iconst (v := nI 1) hx hb dL_joins_284 (by decide) ?_
              refine n_iadd hx hb dL_joins_285 ?_
              refine lv_goto (tgt := 300) hx hb dL_joins_286 (by decide) ?_
              refine y_ast X h (fun _ => rfl) (by decide) (hL (42, 0, 0, 0) ⟨by decide, rfl, rfl, rfl⟩) (by omega) dL_joins_300 (fun H locs h => ?_)
              have h := h.law hW (K_s hd ho hne hv hw)
              refine n_iinc (j := j) (n := 1) (lv' := [(11, .int (nI (j + 1))), (12, .int (bI (mo Y e j && (kmk Y d j || kmk Y o j)))), (10, .int (nI (lgN Y d o e 4))), (0, .ref (ad (35, 0, 0, 0))), (1, .ref (ad (37, 0, 0, 0))), (2, .ref (ad (43, 0, 0, 0))), (3, .ref (ad (44, 0, 0, 0))), (4, .ref (ad (42, 0, 0, 0))), (5, .ref (ad (40, 0, 0, 0))), (6, .ref (ad (45, 0, 0, 0))), (7, .int (nI d)), (8, .int (nI o)), (9, .int (nI e))]) hx hb dL_joins_301 hl (k := 1) rfl (by decide) (by decide) rfl (fun ls hl => ?_)
              refine lv_goto (tgt := 149) hx hb dL_joins_304 (by decide) ?_
              exact ih149 (j + 1) (by omega) (by omega) H locs ls (h.eq (congrArg (lay tc ad gm dz) rfl)) (lv_sub hl [0, 2, 3, 4, 5, 6, 7, 8, 9, 10, 11, 12] rfl)
          · skip
            have hv : nI (t + 1) = tvN Y d o e j d := (tv_y c_213 c_227 hN.2.1).symm
            refine lv_aload hx hb dL_joins_230 (lv_at hl 9 rfl) ?_
            refine lv_iconst (v := nI 1) hx hb dL_joins_232 (by decide) ?_
            refine y_ald X h (fun _ => rfl) (by decide) (hL (45, 0, 0, 0) ⟨by decide, rfl, rfl, rfl⟩) (by omega) (v := nI t) ((congrFun ((KM_see (by decide)).trans (JM_see (by decide) (by decide))) 1).trans hg1) dL_joins_233 ?_
            refine lv_iconst (v := nI 1) hx hb dL_joins_234 (by decide) ?_
            refine n_iadd hx hb dL_joins_235 ?_
            refine lv_goto (tgt := 250) hx hb dL_joins_236 (by decide) ?_
            refine y_ast X h (fun _ => rfl) (by decide) (hL (42, 0, 0, 0) ⟨by decide, rfl, rfl, rfl⟩) (by omega) dL_joins_250 (fun H locs h => ?_)
            refine lv_aload hx hb dL_joins_251 (lv_at hl 7 rfl) ?_
            refine lv_bipush (v := nI 6) hx hb dL_joins_253 (by decide) ?_
            refine lv_iload hx hb dL_joins_255 (lv_at hl 1 rfl) ?_
            refine n_imul hx hb dL_joins_257 ?_
            refine lv_iload hx hb dL_joins_258 (lv_at hl 11 rfl) ?_
            refine n_iadd hx hb dL_joins_260 ?_
            refine lv_iload hx hb dL_joins_261 (lv_at hl 0 rfl) ?_
            refine b_if_eq (tgt := 289) hx hb dL_joins_263 (by decide) (fun c => by rw [c_213] at c; cases c) (fun _ => ?_)
            refine lv_aload hx hb dL_joins_266 (lv_at hl 7 rfl) ?_
            refine lv_bipush (v := nI 6) hx hb dL_joins_268 (by decide) ?_
            refine lv_iload hx hb dL_joins_270 (lv_at hl 1 rfl) ?_
            refine n_imul hx hb dL_joins_272 ?_
            refine lv_iload hx hb dL_joins_273 (lv_at hl 11 rfl) ?_
            refine n_iadd hx hb dL_joins_275 ?_
            refine y_ald X h (fun _ => rfl) (by decide) (hL (42, 0, 0, 0) ⟨by decide, rfl, rfl, rfl⟩) (by omega) (v := Y (42, 0, 0, 0) (6 * j + o)) ((congrFun (sset_eq _ _ _) _).trans ((ud_ne _ _ (by omega)).trans (KM_at hd ho hne ho))) dL_joins_276 ?_
            refine lv_if_ne (tgt := 289) hx hb dL_joins_277 (by decide) (fun c_277 => ?_) (fun c_277 => ?_)
            · skip
              have hw : Y (42, 0, 0, 0) (6 * j + o) = tvN Y d o e j o := (tv_k c_213 hT c_277).symm
              refine lv_aload hx hb dL_joins_289 (lv_at hl 7 rfl) ?_
              refine lv_bipush (v := nI 6) hx hb dL_joins_291 (by decide) ?_
              refine lv_iload hx hb dL_joins_293 (lv_at hl 1 rfl) ?_
              refine n_imul hx hb dL_joins_295 ?_
              refine lv_iload hx hb dL_joins_296 (lv_at hl 11 rfl) ?_
              refine n_iadd hx hb dL_joins_298 ?_
              refine y_ald X h (fun _ => rfl) (by decide) (hL (42, 0, 0, 0) ⟨by decide, rfl, rfl, rfl⟩) (by omega) (v := Y (42, 0, 0, 0) (6 * j + o)) ((congrFun (sset_eq _ _ _) _).trans ((ud_ne _ _ (by omega)).trans (KM_at hd ho hne ho))) dL_joins_299 ?_
              refine y_ast X h (fun _ => rfl) (by decide) (hL (42, 0, 0, 0) ⟨by decide, rfl, rfl, rfl⟩) (by omega) dL_joins_300 (fun H locs h => ?_)
              have h := h.law hW (K_s hd ho hne hv hw)
              refine n_iinc (j := j) (n := 1) (lv' := [(11, .int (nI (j + 1))), (12, .int (bI (mo Y e j && (kmk Y d j || kmk Y o j)))), (10, .int (nI (lgN Y d o e 4))), (0, .ref (ad (35, 0, 0, 0))), (1, .ref (ad (37, 0, 0, 0))), (2, .ref (ad (43, 0, 0, 0))), (3, .ref (ad (44, 0, 0, 0))), (4, .ref (ad (42, 0, 0, 0))), (5, .ref (ad (40, 0, 0, 0))), (6, .ref (ad (45, 0, 0, 0))), (7, .int (nI d)), (8, .int (nI o)), (9, .int (nI e))]) hx hb dL_joins_301 hl (k := 1) rfl (by decide) (by decide) rfl (fun ls hl => ?_)
              refine lv_goto (tgt := 149) hx hb dL_joins_304 (by decide) ?_
              exact ih149 (j + 1) (by omega) (by omega) H locs ls (h.eq (congrArg (lay tc ad gm dz) rfl)) (lv_sub hl [0, 2, 3, 4, 5, 6, 7, 8, 9, 10, 11, 12] rfl)
            · skip
              have hw : nI (t + 1) = tvN Y d o e j o := (tv_y c_213 c_277 hN.2.1).symm
              refine lv_aload hx hb dL_joins_280 (lv_at hl 9 rfl) ?_
              refine lv_iconst (v := nI 1) hx hb dL_joins_282 (by decide) ?_
              refine y_ald X h (fun _ => rfl) (by decide) (hL (45, 0, 0, 0) ⟨by decide, rfl, rfl, rfl⟩) (by omega) (v := nI t) ((congrFun (sset_ne _ _ (nek (by decide))) _).trans ((congrFun ((KM_see (by decide)).trans (JM_see (by decide) (by decide))) 1).trans hg1)) dL_joins_283 ?_
              refine lv_iconst (v := nI 1) hx hb dL_joins_284 (by decide) ?_
              refine n_iadd hx hb dL_joins_285 ?_
              refine lv_goto (tgt := 300) hx hb dL_joins_286 (by decide) ?_
              refine y_ast X h (fun _ => rfl) (by decide) (hL (42, 0, 0, 0) ⟨by decide, rfl, rfl, rfl⟩) (by omega) dL_joins_300 (fun H locs h => ?_)
              have h := h.law hW (K_s hd ho hne hv hw)
              refine n_iinc (j := j) (n := 1) (lv' := [(11, .int (nI (j + 1))), (12, .int (bI (mo Y e j && (kmk Y d j || kmk Y o j)))), (10, .int (nI (lgN Y d o e 4))), (0, .ref (ad (35, 0, 0, 0))), (1, .ref (ad (37, 0, 0, 0))), (2, .ref (ad (43, 0, 0, 0))), (3, .ref (ad (44, 0, 0, 0))), (4, .ref (ad (42, 0, 0, 0))), (5, .ref (ad (40, 0, 0, 0))), (6, .ref (ad (45, 0, 0, 0))), (7, .int (nI d)), (8, .int (nI o)), (9, .int (nI e))]) hx hb dL_joins_301 hl (k := 1) rfl (by decide) (by decide) rfl (fun ls hl => ?_)
              refine lv_goto (tgt := 149) hx hb dL_joins_304 (by decide) ?_
              exact ih149 (j + 1) (by omega) (by omega) H locs ls (h.eq (congrArg (lay tc ad gm dz) rfl)) (lv_sub hl [0, 2, 3, 4, 5, 6, 7, 8, 9, 10, 11, 12] rfl)
      · skip
        refine lv_aload hx hb dL_joins_168 (lv_at hl 6 rfl) ?_
        refine lv_bipush (v := nI 6) hx hb dL_joins_170 (by decide) ?_
        refine lv_iload hx hb dL_joins_172 (lv_at hl 0 rfl) ?_
        refine n_imul hx hb dL_joins_174 ?_
        refine lv_iload hx hb dL_joins_175 (lv_at hl 9 rfl) ?_
        refine n_iadd hx hb dL_joins_177 ?_
        refine y_ald X h (fun _ => rfl) (by decide) (hL (42, 0, 0, 0) ⟨by decide, rfl, rfl, rfl⟩) (by omega) (v := Y (42, 0, 0, 0) (6 * j + d)) (KM_at hd ho hne hd) dL_joins_178 ?_
        refine lv_aload hx hb dL_joins_179 (lv_at hl 6 rfl) ?_
        refine lv_bipush (v := nI 6) hx hb dL_joins_181 (by decide) ?_
        refine lv_iload hx hb dL_joins_183 (lv_at hl 0 rfl) ?_
        refine n_imul hx hb dL_joins_185 ?_
        refine lv_iload hx hb dL_joins_186 (lv_at hl 10 rfl) ?_
        refine n_iadd hx hb dL_joins_188 ?_
        refine y_ald X h (fun _ => rfl) (by decide) (hL (42, 0, 0, 0) ⟨by decide, rfl, rfl, rfl⟩) (by omega) (v := Y (42, 0, 0, 0) (6 * j + o)) (KM_at hd ho hne ho) dL_joins_189 ?_
        refine lv_iadd hx hb dL_joins_190 ?_
        refine lv_if_le (tgt := 198) hx hb dL_joins_191 (by decide) (fun c_191 => ?_) (fun c_191 => ?_)
        · skip
          have hq : (mo Y e j && (kmk Y d j || kmk Y o j)) = false := by rw [sum_f hT c_191, Bool.and_false]
          refine lv_iconst (v := nI 0) hx hb dL_joins_198 (by decide) ?_
          rw [lb_f hq]
          refine lv_istore (lv' := [(12, .int (bI (mo Y e j && (kmk Y d j || kmk Y o j)))), (11, .int (nI j)), (10, .int (nI (lgN Y d o e 4))), (0, .ref (ad (35, 0, 0, 0))), (1, .ref (ad (37, 0, 0, 0))), (2, .ref (ad (43, 0, 0, 0))), (3, .ref (ad (44, 0, 0, 0))), (4, .ref (ad (42, 0, 0, 0))), (5, .ref (ad (40, 0, 0, 0))), (6, .ref (ad (45, 0, 0, 0))), (7, .int (nI d)), (8, .int (nI o)), (9, .int (nI e))]) hx hb dL_joins_199 hl (by decide) rfl (fun ls hl => ?_)
          refine lv_aload hx hb dL_joins_201 (lv_at hl 7 rfl) ?_
          refine lv_bipush (v := nI 6) hx hb dL_joins_203 (by decide) ?_
          refine lv_iload hx hb dL_joins_205 (lv_at hl 1 rfl) ?_
          refine n_imul hx hb dL_joins_207 ?_
          refine lv_iload hx hb dL_joins_208 (lv_at hl 10 rfl) ?_
          refine n_iadd hx hb dL_joins_210 ?_
          refine lv_iload hx hb dL_joins_211 (lv_at hl 0 rfl) ?_
          refine b_if_eq (tgt := 239) hx hb dL_joins_213 (by decide) (fun c_213 => ?_) (fun c_213 => ?_)
          · skip
            have hv : Y (42, 0, 0, 0) (6 * j + d) = tvN Y d o e j d := (tv_n c_213).symm
            have hw : Y (42, 0, 0, 0) (6 * j + o) = tvN Y d o e j o := (tv_n c_213).symm
            refine lv_aload hx hb dL_joins_239 (lv_at hl 7 rfl) ?_
            refine lv_bipush (v := nI 6) hx hb dL_joins_241 (by decide) ?_
            refine lv_iload hx hb dL_joins_243 (lv_at hl 1 rfl) ?_
            refine n_imul hx hb dL_joins_245 ?_
            refine lv_iload hx hb dL_joins_246 (lv_at hl 10 rfl) ?_
            refine n_iadd hx hb dL_joins_248 ?_
            refine y_ald X h (fun _ => rfl) (by decide) (hL (42, 0, 0, 0) ⟨by decide, rfl, rfl, rfl⟩) (by omega) (v := Y (42, 0, 0, 0) (6 * j + d)) (KM_at hd ho hne hd) dL_joins_249 ?_
            refine y_ast X h (fun _ => rfl) (by decide) (hL (42, 0, 0, 0) ⟨by decide, rfl, rfl, rfl⟩) (by omega) dL_joins_250 (fun H locs h => ?_)
            refine lv_aload hx hb dL_joins_251 (lv_at hl 7 rfl) ?_
            refine lv_bipush (v := nI 6) hx hb dL_joins_253 (by decide) ?_
            refine lv_iload hx hb dL_joins_255 (lv_at hl 1 rfl) ?_
            refine n_imul hx hb dL_joins_257 ?_
            refine lv_iload hx hb dL_joins_258 (lv_at hl 11 rfl) ?_
            refine n_iadd hx hb dL_joins_260 ?_
            refine lv_iload hx hb dL_joins_261 (lv_at hl 0 rfl) ?_
            refine b_if_eq (tgt := 289) hx hb dL_joins_263 (by decide) (fun _ => ?_) (fun c => by rw [c_213] at c; cases c)
            refine lv_aload hx hb dL_joins_289 (lv_at hl 7 rfl) ?_
            refine lv_bipush (v := nI 6) hx hb dL_joins_291 (by decide) ?_
            refine lv_iload hx hb dL_joins_293 (lv_at hl 1 rfl) ?_
            refine n_imul hx hb dL_joins_295 ?_
            refine lv_iload hx hb dL_joins_296 (lv_at hl 11 rfl) ?_
            refine n_iadd hx hb dL_joins_298 ?_
            refine y_ald X h (fun _ => rfl) (by decide) (hL (42, 0, 0, 0) ⟨by decide, rfl, rfl, rfl⟩) (by omega) (v := Y (42, 0, 0, 0) (6 * j + o)) ((congrFun (sset_eq _ _ _) _).trans ((ud_ne _ _ (by omega)).trans (KM_at hd ho hne ho))) dL_joins_299 ?_
            refine y_ast X h (fun _ => rfl) (by decide) (hL (42, 0, 0, 0) ⟨by decide, rfl, rfl, rfl⟩) (by omega) dL_joins_300 (fun H locs h => ?_)
            have h := h.law hW (K_s hd ho hne hv hw)
            refine n_iinc (j := j) (n := 1) (lv' := [(11, .int (nI (j + 1))), (12, .int (bI (mo Y e j && (kmk Y d j || kmk Y o j)))), (10, .int (nI (lgN Y d o e 4))), (0, .ref (ad (35, 0, 0, 0))), (1, .ref (ad (37, 0, 0, 0))), (2, .ref (ad (43, 0, 0, 0))), (3, .ref (ad (44, 0, 0, 0))), (4, .ref (ad (42, 0, 0, 0))), (5, .ref (ad (40, 0, 0, 0))), (6, .ref (ad (45, 0, 0, 0))), (7, .int (nI d)), (8, .int (nI o)), (9, .int (nI e))]) hx hb dL_joins_301 hl (k := 1) rfl (by decide) (by decide) rfl (fun ls hl => ?_)
            refine lv_goto (tgt := 149) hx hb dL_joins_304 (by decide) ?_
            exact ih149 (j + 1) (by omega) (by omega) H locs ls (h.eq (congrArg (lay tc ad gm dz) rfl)) (lv_sub hl [0, 2, 3, 4, 5, 6, 7, 8, 9, 10, 11, 12] rfl)
          · skip
            refine lv_aload hx hb dL_joins_216 (lv_at hl 7 rfl) ?_
            refine lv_bipush (v := nI 6) hx hb dL_joins_218 (by decide) ?_
            refine lv_iload hx hb dL_joins_220 (lv_at hl 1 rfl) ?_
            refine n_imul hx hb dL_joins_222 ?_
            refine lv_iload hx hb dL_joins_223 (lv_at hl 10 rfl) ?_
            refine n_iadd hx hb dL_joins_225 ?_
            refine y_ald X h (fun _ => rfl) (by decide) (hL (42, 0, 0, 0) ⟨by decide, rfl, rfl, rfl⟩) (by omega) (v := Y (42, 0, 0, 0) (6 * j + d)) (KM_at hd ho hne hd) dL_joins_226 ?_
            refine lv_if_ne (tgt := 239) hx hb dL_joins_227 (by decide) (fun c_227 => ?_) (fun c_227 => ?_)
            · skip
              have hv : Y (42, 0, 0, 0) (6 * j + d) = tvN Y d o e j d := (tv_k c_213 hT c_227).symm
              refine lv_aload hx hb dL_joins_239 (lv_at hl 7 rfl) ?_
              refine lv_bipush (v := nI 6) hx hb dL_joins_241 (by decide) ?_
              refine lv_iload hx hb dL_joins_243 (lv_at hl 1 rfl) ?_
              refine n_imul hx hb dL_joins_245 ?_
              refine lv_iload hx hb dL_joins_246 (lv_at hl 10 rfl) ?_
              refine n_iadd hx hb dL_joins_248 ?_
              refine y_ald X h (fun _ => rfl) (by decide) (hL (42, 0, 0, 0) ⟨by decide, rfl, rfl, rfl⟩) (by omega) (v := Y (42, 0, 0, 0) (6 * j + d)) (KM_at hd ho hne hd) dL_joins_249 ?_
              refine y_ast X h (fun _ => rfl) (by decide) (hL (42, 0, 0, 0) ⟨by decide, rfl, rfl, rfl⟩) (by omega) dL_joins_250 (fun H locs h => ?_)
              refine lv_aload hx hb dL_joins_251 (lv_at hl 7 rfl) ?_
              refine lv_bipush (v := nI 6) hx hb dL_joins_253 (by decide) ?_
              refine lv_iload hx hb dL_joins_255 (lv_at hl 1 rfl) ?_
              refine n_imul hx hb dL_joins_257 ?_
              refine lv_iload hx hb dL_joins_258 (lv_at hl 11 rfl) ?_
              refine n_iadd hx hb dL_joins_260 ?_
              refine lv_iload hx hb dL_joins_261 (lv_at hl 0 rfl) ?_
              refine b_if_eq (tgt := 289) hx hb dL_joins_263 (by decide) (fun c => by rw [c_213] at c; cases c) (fun _ => ?_)
              refine lv_aload hx hb dL_joins_266 (lv_at hl 7 rfl) ?_
              refine lv_bipush (v := nI 6) hx hb dL_joins_268 (by decide) ?_
              refine lv_iload hx hb dL_joins_270 (lv_at hl 1 rfl) ?_
              refine n_imul hx hb dL_joins_272 ?_
              refine lv_iload hx hb dL_joins_273 (lv_at hl 11 rfl) ?_
              refine n_iadd hx hb dL_joins_275 ?_
              refine y_ald X h (fun _ => rfl) (by decide) (hL (42, 0, 0, 0) ⟨by decide, rfl, rfl, rfl⟩) (by omega) (v := Y (42, 0, 0, 0) (6 * j + o)) ((congrFun (sset_eq _ _ _) _).trans ((ud_ne _ _ (by omega)).trans (KM_at hd ho hne ho))) dL_joins_276 ?_
              refine lv_if_ne (tgt := 289) hx hb dL_joins_277 (by decide) (fun c_277 => ?_) (fun c_277 => ?_)
              · skip
                have hw : Y (42, 0, 0, 0) (6 * j + o) = tvN Y d o e j o := (tv_k c_213 hT c_277).symm
                refine lv_aload hx hb dL_joins_289 (lv_at hl 7 rfl) ?_
                refine lv_bipush (v := nI 6) hx hb dL_joins_291 (by decide) ?_
                refine lv_iload hx hb dL_joins_293 (lv_at hl 1 rfl) ?_
                refine n_imul hx hb dL_joins_295 ?_
                refine lv_iload hx hb dL_joins_296 (lv_at hl 11 rfl) ?_
                refine n_iadd hx hb dL_joins_298 ?_
                refine y_ald X h (fun _ => rfl) (by decide) (hL (42, 0, 0, 0) ⟨by decide, rfl, rfl, rfl⟩) (by omega) (v := Y (42, 0, 0, 0) (6 * j + o)) ((congrFun (sset_eq _ _ _) _).trans ((ud_ne _ _ (by omega)).trans (KM_at hd ho hne ho))) dL_joins_299 ?_
                refine y_ast X h (fun _ => rfl) (by decide) (hL (42, 0, 0, 0) ⟨by decide, rfl, rfl, rfl⟩) (by omega) dL_joins_300 (fun H locs h => ?_)
                have h := h.law hW (K_s hd ho hne hv hw)
                refine n_iinc (j := j) (n := 1) (lv' := [(11, .int (nI (j + 1))), (12, .int (bI (mo Y e j && (kmk Y d j || kmk Y o j)))), (10, .int (nI (lgN Y d o e 4))), (0, .ref (ad (35, 0, 0, 0))), (1, .ref (ad (37, 0, 0, 0))), (2, .ref (ad (43, 0, 0, 0))), (3, .ref (ad (44, 0, 0, 0))), (4, .ref (ad (42, 0, 0, 0))), (5, .ref (ad (40, 0, 0, 0))), (6, .ref (ad (45, 0, 0, 0))), (7, .int (nI d)), (8, .int (nI o)), (9, .int (nI e))]) hx hb dL_joins_301 hl (k := 1) rfl (by decide) (by decide) rfl (fun ls hl => ?_)
                refine lv_goto (tgt := 149) hx hb dL_joins_304 (by decide) ?_
                exact ih149 (j + 1) (by omega) (by omega) H locs ls (h.eq (congrArg (lay tc ad gm dz) rfl)) (lv_sub hl [0, 2, 3, 4, 5, 6, 7, 8, 9, 10, 11, 12] rfl)
              · skip
                have hw : nI (t + 1) = tvN Y d o e j o := (tv_y c_213 c_277 hN.2.1).symm
                refine lv_aload hx hb dL_joins_280 (lv_at hl 9 rfl) ?_
                refine lv_iconst (v := nI 1) hx hb dL_joins_282 (by decide) ?_
                refine y_ald X h (fun _ => rfl) (by decide) (hL (45, 0, 0, 0) ⟨by decide, rfl, rfl, rfl⟩) (by omega) (v := nI t) ((congrFun (sset_ne _ _ (nek (by decide))) _).trans ((congrFun ((KM_see (by decide)).trans (JM_see (by decide) (by decide))) 1).trans hg1)) dL_joins_283 ?_
                refine lv_iconst (v := nI 1) hx hb dL_joins_284 (by decide) ?_
                refine n_iadd hx hb dL_joins_285 ?_
                refine lv_goto (tgt := 300) hx hb dL_joins_286 (by decide) ?_
                refine y_ast X h (fun _ => rfl) (by decide) (hL (42, 0, 0, 0) ⟨by decide, rfl, rfl, rfl⟩) (by omega) dL_joins_300 (fun H locs h => ?_)
                have h := h.law hW (K_s hd ho hne hv hw)
                refine n_iinc (j := j) (n := 1) (lv' := [(11, .int (nI (j + 1))), (12, .int (bI (mo Y e j && (kmk Y d j || kmk Y o j)))), (10, .int (nI (lgN Y d o e 4))), (0, .ref (ad (35, 0, 0, 0))), (1, .ref (ad (37, 0, 0, 0))), (2, .ref (ad (43, 0, 0, 0))), (3, .ref (ad (44, 0, 0, 0))), (4, .ref (ad (42, 0, 0, 0))), (5, .ref (ad (40, 0, 0, 0))), (6, .ref (ad (45, 0, 0, 0))), (7, .int (nI d)), (8, .int (nI o)), (9, .int (nI e))]) hx hb dL_joins_301 hl (k := 1) rfl (by decide) (by decide) rfl (fun ls hl => ?_)
                refine lv_goto (tgt := 149) hx hb dL_joins_304 (by decide) ?_
                exact ih149 (j + 1) (by omega) (by omega) H locs ls (h.eq (congrArg (lay tc ad gm dz) rfl)) (lv_sub hl [0, 2, 3, 4, 5, 6, 7, 8, 9, 10, 11, 12] rfl)
            · skip
              have hv : nI (t + 1) = tvN Y d o e j d := (tv_y c_213 c_227 hN.2.1).symm
              refine lv_aload hx hb dL_joins_230 (lv_at hl 9 rfl) ?_
              refine lv_iconst (v := nI 1) hx hb dL_joins_232 (by decide) ?_
              refine y_ald X h (fun _ => rfl) (by decide) (hL (45, 0, 0, 0) ⟨by decide, rfl, rfl, rfl⟩) (by omega) (v := nI t) ((congrFun ((KM_see (by decide)).trans (JM_see (by decide) (by decide))) 1).trans hg1) dL_joins_233 ?_
              refine lv_iconst (v := nI 1) hx hb dL_joins_234 (by decide) ?_
              refine n_iadd hx hb dL_joins_235 ?_
              refine lv_goto (tgt := 250) hx hb dL_joins_236 (by decide) ?_
              refine y_ast X h (fun _ => rfl) (by decide) (hL (42, 0, 0, 0) ⟨by decide, rfl, rfl, rfl⟩) (by omega) dL_joins_250 (fun H locs h => ?_)
              refine lv_aload hx hb dL_joins_251 (lv_at hl 7 rfl) ?_
              refine lv_bipush (v := nI 6) hx hb dL_joins_253 (by decide) ?_
              refine lv_iload hx hb dL_joins_255 (lv_at hl 1 rfl) ?_
              refine n_imul hx hb dL_joins_257 ?_
              refine lv_iload hx hb dL_joins_258 (lv_at hl 11 rfl) ?_
              refine n_iadd hx hb dL_joins_260 ?_
              refine lv_iload hx hb dL_joins_261 (lv_at hl 0 rfl) ?_
              refine b_if_eq (tgt := 289) hx hb dL_joins_263 (by decide) (fun c => by rw [c_213] at c; cases c) (fun _ => ?_)
              refine lv_aload hx hb dL_joins_266 (lv_at hl 7 rfl) ?_
              refine lv_bipush (v := nI 6) hx hb dL_joins_268 (by decide) ?_
              refine lv_iload hx hb dL_joins_270 (lv_at hl 1 rfl) ?_
              refine n_imul hx hb dL_joins_272 ?_
              refine lv_iload hx hb dL_joins_273 (lv_at hl 11 rfl) ?_
              refine n_iadd hx hb dL_joins_275 ?_
              refine y_ald X h (fun _ => rfl) (by decide) (hL (42, 0, 0, 0) ⟨by decide, rfl, rfl, rfl⟩) (by omega) (v := Y (42, 0, 0, 0) (6 * j + o)) ((congrFun (sset_eq _ _ _) _).trans ((ud_ne _ _ (by omega)).trans (KM_at hd ho hne ho))) dL_joins_276 ?_
              refine lv_if_ne (tgt := 289) hx hb dL_joins_277 (by decide) (fun c_277 => ?_) (fun c_277 => ?_)
              · skip
                have hw : Y (42, 0, 0, 0) (6 * j + o) = tvN Y d o e j o := (tv_k c_213 hT c_277).symm
                refine lv_aload hx hb dL_joins_289 (lv_at hl 7 rfl) ?_
                refine lv_bipush (v := nI 6) hx hb dL_joins_291 (by decide) ?_
                refine lv_iload hx hb dL_joins_293 (lv_at hl 1 rfl) ?_
                refine n_imul hx hb dL_joins_295 ?_
                refine lv_iload hx hb dL_joins_296 (lv_at hl 11 rfl) ?_
                refine n_iadd hx hb dL_joins_298 ?_
                refine y_ald X h (fun _ => rfl) (by decide) (hL (42, 0, 0, 0) ⟨by decide, rfl, rfl, rfl⟩) (by omega) (v := Y (42, 0, 0, 0) (6 * j + o)) ((congrFun (sset_eq _ _ _) _).trans ((ud_ne _ _ (by omega)).trans (KM_at hd ho hne ho))) dL_joins_299 ?_
                refine y_ast X h (fun _ => rfl) (by decide) (hL (42, 0, 0, 0) ⟨by decide, rfl, rfl, rfl⟩) (by omega) dL_joins_300 (fun H locs h => ?_)
                have h := h.law hW (K_s hd ho hne hv hw)
                refine n_iinc (j := j) (n := 1) (lv' := [(11, .int (nI (j + 1))), (12, .int (bI (mo Y e j && (kmk Y d j || kmk Y o j)))), (10, .int (nI (lgN Y d o e 4))), (0, .ref (ad (35, 0, 0, 0))), (1, .ref (ad (37, 0, 0, 0))), (2, .ref (ad (43, 0, 0, 0))), (3, .ref (ad (44, 0, 0, 0))), (4, .ref (ad (42, 0, 0, 0))), (5, .ref (ad (40, 0, 0, 0))), (6, .ref (ad (45, 0, 0, 0))), (7, .int (nI d)), (8, .int (nI o)), (9, .int (nI e))]) hx hb dL_joins_301 hl (k := 1) rfl (by decide) (by decide) rfl (fun ls hl => ?_)
                refine lv_goto (tgt := 149) hx hb dL_joins_304 (by decide) ?_
                exact ih149 (j + 1) (by omega) (by omega) H locs ls (h.eq (congrArg (lay tc ad gm dz) rfl)) (lv_sub hl [0, 2, 3, 4, 5, 6, 7, 8, 9, 10, 11, 12] rfl)
              · skip
                have hw : nI (t + 1) = tvN Y d o e j o := (tv_y c_213 c_277 hN.2.1).symm
                refine lv_aload hx hb dL_joins_280 (lv_at hl 9 rfl) ?_
                refine lv_iconst (v := nI 1) hx hb dL_joins_282 (by decide) ?_
                refine y_ald X h (fun _ => rfl) (by decide) (hL (45, 0, 0, 0) ⟨by decide, rfl, rfl, rfl⟩) (by omega) (v := nI t) ((congrFun (sset_ne _ _ (nek (by decide))) _).trans ((congrFun ((KM_see (by decide)).trans (JM_see (by decide) (by decide))) 1).trans hg1)) dL_joins_283 ?_
                refine lv_iconst (v := nI 1) hx hb dL_joins_284 (by decide) ?_
                refine n_iadd hx hb dL_joins_285 ?_
                refine lv_goto (tgt := 300) hx hb dL_joins_286 (by decide) ?_
                refine y_ast X h (fun _ => rfl) (by decide) (hL (42, 0, 0, 0) ⟨by decide, rfl, rfl, rfl⟩) (by omega) dL_joins_300 (fun H locs h => ?_)
                have h := h.law hW (K_s hd ho hne hv hw)
                refine n_iinc (j := j) (n := 1) (lv' := [(11, .int (nI (j + 1))), (12, .int (bI (mo Y e j && (kmk Y d j || kmk Y o j)))), (10, .int (nI (lgN Y d o e 4))), (0, .ref (ad (35, 0, 0, 0))), (1, .ref (ad (37, 0, 0, 0))), (2, .ref (ad (43, 0, 0, 0))), (3, .ref (ad (44, 0, 0, 0))), (4, .ref (ad (42, 0, 0, 0))), (5, .ref (ad (40, 0, 0, 0))), (6, .ref (ad (45, 0, 0, 0))), (7, .int (nI d)), (8, .int (nI o)), (9, .int (nI e))]) hx hb dL_joins_301 hl (k := 1) rfl (by decide) (by decide) rfl (fun ls hl => ?_)
                refine lv_goto (tgt := 149) hx hb dL_joins_304 (by decide) ?_
                exact ih149 (j + 1) (by omega) (by omega) H locs ls (h.eq (congrArg (lay tc ad gm dz) rfl)) (lv_sub hl [0, 2, 3, 4, 5, 6, 7, 8, 9, 10, 11, 12] rfl)
        · skip
          have hq : (mo Y e j && (kmk Y d j || kmk Y o j)) = true := by rw [mo_t c_165, sum_t hT c_191]; rfl
          refine lv_iconst (v := nI 1) hx hb dL_joins_194 (by decide) ?_
          refine lv_goto (tgt := 199) hx hb dL_joins_195 (by decide) ?_
          rw [lb_t hq]
          refine lv_istore (lv' := [(12, .int (bI (mo Y e j && (kmk Y d j || kmk Y o j)))), (11, .int (nI j)), (10, .int (nI (lgN Y d o e 4))), (0, .ref (ad (35, 0, 0, 0))), (1, .ref (ad (37, 0, 0, 0))), (2, .ref (ad (43, 0, 0, 0))), (3, .ref (ad (44, 0, 0, 0))), (4, .ref (ad (42, 0, 0, 0))), (5, .ref (ad (40, 0, 0, 0))), (6, .ref (ad (45, 0, 0, 0))), (7, .int (nI d)), (8, .int (nI o)), (9, .int (nI e))]) hx hb dL_joins_199 hl (by decide) rfl (fun ls hl => ?_)
          refine lv_aload hx hb dL_joins_201 (lv_at hl 7 rfl) ?_
          refine lv_bipush (v := nI 6) hx hb dL_joins_203 (by decide) ?_
          refine lv_iload hx hb dL_joins_205 (lv_at hl 1 rfl) ?_
          refine n_imul hx hb dL_joins_207 ?_
          refine lv_iload hx hb dL_joins_208 (lv_at hl 10 rfl) ?_
          refine n_iadd hx hb dL_joins_210 ?_
          refine lv_iload hx hb dL_joins_211 (lv_at hl 0 rfl) ?_
          refine b_if_eq (tgt := 239) hx hb dL_joins_213 (by decide) (fun c_213 => ?_) (fun c_213 => ?_)
          · skip
            have hv : Y (42, 0, 0, 0) (6 * j + d) = tvN Y d o e j d := (tv_n c_213).symm
            have hw : Y (42, 0, 0, 0) (6 * j + o) = tvN Y d o e j o := (tv_n c_213).symm
            refine lv_aload hx hb dL_joins_239 (lv_at hl 7 rfl) ?_
            refine lv_bipush (v := nI 6) hx hb dL_joins_241 (by decide) ?_
            refine lv_iload hx hb dL_joins_243 (lv_at hl 1 rfl) ?_
            refine n_imul hx hb dL_joins_245 ?_
            refine lv_iload hx hb dL_joins_246 (lv_at hl 10 rfl) ?_
            refine n_iadd hx hb dL_joins_248 ?_
            refine y_ald X h (fun _ => rfl) (by decide) (hL (42, 0, 0, 0) ⟨by decide, rfl, rfl, rfl⟩) (by omega) (v := Y (42, 0, 0, 0) (6 * j + d)) (KM_at hd ho hne hd) dL_joins_249 ?_
            refine y_ast X h (fun _ => rfl) (by decide) (hL (42, 0, 0, 0) ⟨by decide, rfl, rfl, rfl⟩) (by omega) dL_joins_250 (fun H locs h => ?_)
            refine lv_aload hx hb dL_joins_251 (lv_at hl 7 rfl) ?_
            refine lv_bipush (v := nI 6) hx hb dL_joins_253 (by decide) ?_
            refine lv_iload hx hb dL_joins_255 (lv_at hl 1 rfl) ?_
            refine n_imul hx hb dL_joins_257 ?_
            refine lv_iload hx hb dL_joins_258 (lv_at hl 11 rfl) ?_
            refine n_iadd hx hb dL_joins_260 ?_
            refine lv_iload hx hb dL_joins_261 (lv_at hl 0 rfl) ?_
            refine b_if_eq (tgt := 289) hx hb dL_joins_263 (by decide) (fun _ => ?_) (fun c => by rw [c_213] at c; cases c)
            refine lv_aload hx hb dL_joins_289 (lv_at hl 7 rfl) ?_
            refine lv_bipush (v := nI 6) hx hb dL_joins_291 (by decide) ?_
            refine lv_iload hx hb dL_joins_293 (lv_at hl 1 rfl) ?_
            refine n_imul hx hb dL_joins_295 ?_
            refine lv_iload hx hb dL_joins_296 (lv_at hl 11 rfl) ?_
            refine n_iadd hx hb dL_joins_298 ?_
            refine y_ald X h (fun _ => rfl) (by decide) (hL (42, 0, 0, 0) ⟨by decide, rfl, rfl, rfl⟩) (by omega) (v := Y (42, 0, 0, 0) (6 * j + o)) ((congrFun (sset_eq _ _ _) _).trans ((ud_ne _ _ (by omega)).trans (KM_at hd ho hne ho))) dL_joins_299 ?_
            refine y_ast X h (fun _ => rfl) (by decide) (hL (42, 0, 0, 0) ⟨by decide, rfl, rfl, rfl⟩) (by omega) dL_joins_300 (fun H locs h => ?_)
            have h := h.law hW (K_s hd ho hne hv hw)
            refine n_iinc (j := j) (n := 1) (lv' := [(11, .int (nI (j + 1))), (12, .int (bI (mo Y e j && (kmk Y d j || kmk Y o j)))), (10, .int (nI (lgN Y d o e 4))), (0, .ref (ad (35, 0, 0, 0))), (1, .ref (ad (37, 0, 0, 0))), (2, .ref (ad (43, 0, 0, 0))), (3, .ref (ad (44, 0, 0, 0))), (4, .ref (ad (42, 0, 0, 0))), (5, .ref (ad (40, 0, 0, 0))), (6, .ref (ad (45, 0, 0, 0))), (7, .int (nI d)), (8, .int (nI o)), (9, .int (nI e))]) hx hb dL_joins_301 hl (k := 1) rfl (by decide) (by decide) rfl (fun ls hl => ?_)
            refine lv_goto (tgt := 149) hx hb dL_joins_304 (by decide) ?_
            exact ih149 (j + 1) (by omega) (by omega) H locs ls (h.eq (congrArg (lay tc ad gm dz) rfl)) (lv_sub hl [0, 2, 3, 4, 5, 6, 7, 8, 9, 10, 11, 12] rfl)
          · skip
            refine lv_aload hx hb dL_joins_216 (lv_at hl 7 rfl) ?_
            refine lv_bipush (v := nI 6) hx hb dL_joins_218 (by decide) ?_
            refine lv_iload hx hb dL_joins_220 (lv_at hl 1 rfl) ?_
            refine n_imul hx hb dL_joins_222 ?_
            refine lv_iload hx hb dL_joins_223 (lv_at hl 10 rfl) ?_
            refine n_iadd hx hb dL_joins_225 ?_
            refine y_ald X h (fun _ => rfl) (by decide) (hL (42, 0, 0, 0) ⟨by decide, rfl, rfl, rfl⟩) (by omega) (v := Y (42, 0, 0, 0) (6 * j + d)) (KM_at hd ho hne hd) dL_joins_226 ?_
            refine lv_if_ne (tgt := 239) hx hb dL_joins_227 (by decide) (fun c_227 => ?_) (fun c_227 => ?_)
            · skip
              have hv : Y (42, 0, 0, 0) (6 * j + d) = tvN Y d o e j d := (tv_k c_213 hT c_227).symm
              refine lv_aload hx hb dL_joins_239 (lv_at hl 7 rfl) ?_
              refine lv_bipush (v := nI 6) hx hb dL_joins_241 (by decide) ?_
              refine lv_iload hx hb dL_joins_243 (lv_at hl 1 rfl) ?_
              refine n_imul hx hb dL_joins_245 ?_
              refine lv_iload hx hb dL_joins_246 (lv_at hl 10 rfl) ?_
              refine n_iadd hx hb dL_joins_248 ?_
              refine y_ald X h (fun _ => rfl) (by decide) (hL (42, 0, 0, 0) ⟨by decide, rfl, rfl, rfl⟩) (by omega) (v := Y (42, 0, 0, 0) (6 * j + d)) (KM_at hd ho hne hd) dL_joins_249 ?_
              refine y_ast X h (fun _ => rfl) (by decide) (hL (42, 0, 0, 0) ⟨by decide, rfl, rfl, rfl⟩) (by omega) dL_joins_250 (fun H locs h => ?_)
              refine lv_aload hx hb dL_joins_251 (lv_at hl 7 rfl) ?_
              refine lv_bipush (v := nI 6) hx hb dL_joins_253 (by decide) ?_
              refine lv_iload hx hb dL_joins_255 (lv_at hl 1 rfl) ?_
              refine n_imul hx hb dL_joins_257 ?_
              refine lv_iload hx hb dL_joins_258 (lv_at hl 11 rfl) ?_
              refine n_iadd hx hb dL_joins_260 ?_
              refine lv_iload hx hb dL_joins_261 (lv_at hl 0 rfl) ?_
              refine b_if_eq (tgt := 289) hx hb dL_joins_263 (by decide) (fun c => by rw [c_213] at c; cases c) (fun _ => ?_)
              refine lv_aload hx hb dL_joins_266 (lv_at hl 7 rfl) ?_
              refine lv_bipush (v := nI 6) hx hb dL_joins_268 (by decide) ?_
              refine lv_iload hx hb dL_joins_270 (lv_at hl 1 rfl) ?_
              refine n_imul hx hb dL_joins_272 ?_
              refine lv_iload hx hb dL_joins_273 (lv_at hl 11 rfl) ?_
              refine n_iadd hx hb dL_joins_275 ?_
              refine y_ald X h (fun _ => rfl) (by decide) (hL (42, 0, 0, 0) ⟨by decide, rfl, rfl, rfl⟩) (by omega) (v := Y (42, 0, 0, 0) (6 * j + o)) ((congrFun (sset_eq _ _ _) _).trans ((ud_ne _ _ (by omega)).trans (KM_at hd ho hne ho))) dL_joins_276 ?_
              refine lv_if_ne (tgt := 289) hx hb dL_joins_277 (by decide) (fun c_277 => ?_) (fun c_277 => ?_)
              · skip
                have hw : Y (42, 0, 0, 0) (6 * j + o) = tvN Y d o e j o := (tv_k c_213 hT c_277).symm
                refine lv_aload hx hb dL_joins_289 (lv_at hl 7 rfl) ?_
                refine lv_bipush (v := nI 6) hx hb dL_joins_291 (by decide) ?_
                refine lv_iload hx hb dL_joins_293 (lv_at hl 1 rfl) ?_
                refine n_imul hx hb dL_joins_295 ?_
                refine lv_iload hx hb dL_joins_296 (lv_at hl 11 rfl) ?_
                refine n_iadd hx hb dL_joins_298 ?_
                refine y_ald X h (fun _ => rfl) (by decide) (hL (42, 0, 0, 0) ⟨by decide, rfl, rfl, rfl⟩) (by omega) (v := Y (42, 0, 0, 0) (6 * j + o)) ((congrFun (sset_eq _ _ _) _).trans ((ud_ne _ _ (by omega)).trans (KM_at hd ho hne ho))) dL_joins_299 ?_
                refine y_ast X h (fun _ => rfl) (by decide) (hL (42, 0, 0, 0) ⟨by decide, rfl, rfl, rfl⟩) (by omega) dL_joins_300 (fun H locs h => ?_)
                have h := h.law hW (K_s hd ho hne hv hw)
                refine n_iinc (j := j) (n := 1) (lv' := [(11, .int (nI (j + 1))), (12, .int (bI (mo Y e j && (kmk Y d j || kmk Y o j)))), (10, .int (nI (lgN Y d o e 4))), (0, .ref (ad (35, 0, 0, 0))), (1, .ref (ad (37, 0, 0, 0))), (2, .ref (ad (43, 0, 0, 0))), (3, .ref (ad (44, 0, 0, 0))), (4, .ref (ad (42, 0, 0, 0))), (5, .ref (ad (40, 0, 0, 0))), (6, .ref (ad (45, 0, 0, 0))), (7, .int (nI d)), (8, .int (nI o)), (9, .int (nI e))]) hx hb dL_joins_301 hl (k := 1) rfl (by decide) (by decide) rfl (fun ls hl => ?_)
                refine lv_goto (tgt := 149) hx hb dL_joins_304 (by decide) ?_
                exact ih149 (j + 1) (by omega) (by omega) H locs ls (h.eq (congrArg (lay tc ad gm dz) rfl)) (lv_sub hl [0, 2, 3, 4, 5, 6, 7, 8, 9, 10, 11, 12] rfl)
              · skip
                have hw : nI (t + 1) = tvN Y d o e j o := (tv_y c_213 c_277 hN.2.1).symm
                refine lv_aload hx hb dL_joins_280 (lv_at hl 9 rfl) ?_
                refine lv_iconst (v := nI 1) hx hb dL_joins_282 (by decide) ?_
                refine y_ald X h (fun _ => rfl) (by decide) (hL (45, 0, 0, 0) ⟨by decide, rfl, rfl, rfl⟩) (by omega) (v := nI t) ((congrFun (sset_ne _ _ (nek (by decide))) _).trans ((congrFun ((KM_see (by decide)).trans (JM_see (by decide) (by decide))) 1).trans hg1)) dL_joins_283 ?_
                refine lv_iconst (v := nI 1) hx hb dL_joins_284 (by decide) ?_
                refine n_iadd hx hb dL_joins_285 ?_
                refine lv_goto (tgt := 300) hx hb dL_joins_286 (by decide) ?_
                refine y_ast X h (fun _ => rfl) (by decide) (hL (42, 0, 0, 0) ⟨by decide, rfl, rfl, rfl⟩) (by omega) dL_joins_300 (fun H locs h => ?_)
                have h := h.law hW (K_s hd ho hne hv hw)
                refine n_iinc (j := j) (n := 1) (lv' := [(11, .int (nI (j + 1))), (12, .int (bI (mo Y e j && (kmk Y d j || kmk Y o j)))), (10, .int (nI (lgN Y d o e 4))), (0, .ref (ad (35, 0, 0, 0))), (1, .ref (ad (37, 0, 0, 0))), (2, .ref (ad (43, 0, 0, 0))), (3, .ref (ad (44, 0, 0, 0))), (4, .ref (ad (42, 0, 0, 0))), (5, .ref (ad (40, 0, 0, 0))), (6, .ref (ad (45, 0, 0, 0))), (7, .int (nI d)), (8, .int (nI o)), (9, .int (nI e))]) hx hb dL_joins_301 hl (k := 1) rfl (by decide) (by decide) rfl (fun ls hl => ?_)
                refine lv_goto (tgt := 149) hx hb dL_joins_304 (by decide) ?_
                exact ih149 (j + 1) (by omega) (by omega) H locs ls (h.eq (congrArg (lay tc ad gm dz) rfl)) (lv_sub hl [0, 2, 3, 4, 5, 6, 7, 8, 9, 10, 11, 12] rfl)
            · skip
              have hv : nI (t + 1) = tvN Y d o e j d := (tv_y c_213 c_227 hN.2.1).symm
              refine lv_aload hx hb dL_joins_230 (lv_at hl 9 rfl) ?_
              refine lv_iconst (v := nI 1) hx hb dL_joins_232 (by decide) ?_
              refine y_ald X h (fun _ => rfl) (by decide) (hL (45, 0, 0, 0) ⟨by decide, rfl, rfl, rfl⟩) (by omega) (v := nI t) ((congrFun ((KM_see (by decide)).trans (JM_see (by decide) (by decide))) 1).trans hg1) dL_joins_233 ?_
              refine lv_iconst (v := nI 1) hx hb dL_joins_234 (by decide) ?_
              refine n_iadd hx hb dL_joins_235 ?_
              refine lv_goto (tgt := 250) hx hb dL_joins_236 (by decide) ?_
              refine y_ast X h (fun _ => rfl) (by decide) (hL (42, 0, 0, 0) ⟨by decide, rfl, rfl, rfl⟩) (by omega) dL_joins_250 (fun H locs h => ?_)
              refine lv_aload hx hb dL_joins_251 (lv_at hl 7 rfl) ?_
              refine lv_bipush (v := nI 6) hx hb dL_joins_253 (by decide) ?_
              refine lv_iload hx hb dL_joins_255 (lv_at hl 1 rfl) ?_
              refine n_imul hx hb dL_joins_257 ?_
              refine lv_iload hx hb dL_joins_258 (lv_at hl 11 rfl) ?_
              refine n_iadd hx hb dL_joins_260 ?_
              refine lv_iload hx hb dL_joins_261 (lv_at hl 0 rfl) ?_
              refine b_if_eq (tgt := 289) hx hb dL_joins_263 (by decide) (fun c => by rw [c_213] at c; cases c) (fun _ => ?_)
              refine lv_aload hx hb dL_joins_266 (lv_at hl 7 rfl) ?_
              refine lv_bipush (v := nI 6) hx hb dL_joins_268 (by decide) ?_
              refine lv_iload hx hb dL_joins_270 (lv_at hl 1 rfl) ?_
              refine n_imul hx hb dL_joins_272 ?_
              refine lv_iload hx hb dL_joins_273 (lv_at hl 11 rfl) ?_
              refine n_iadd hx hb dL_joins_275 ?_
              refine y_ald X h (fun _ => rfl) (by decide) (hL (42, 0, 0, 0) ⟨by decide, rfl, rfl, rfl⟩) (by omega) (v := Y (42, 0, 0, 0) (6 * j + o)) ((congrFun (sset_eq _ _ _) _).trans ((ud_ne _ _ (by omega)).trans (KM_at hd ho hne ho))) dL_joins_276 ?_
              refine lv_if_ne (tgt := 289) hx hb dL_joins_277 (by decide) (fun c_277 => ?_) (fun c_277 => ?_)
              · skip
                have hw : Y (42, 0, 0, 0) (6 * j + o) = tvN Y d o e j o := (tv_k c_213 hT c_277).symm
                refine lv_aload hx hb dL_joins_289 (lv_at hl 7 rfl) ?_
                refine lv_bipush (v := nI 6) hx hb dL_joins_291 (by decide) ?_
                refine lv_iload hx hb dL_joins_293 (lv_at hl 1 rfl) ?_
                refine n_imul hx hb dL_joins_295 ?_
                refine lv_iload hx hb dL_joins_296 (lv_at hl 11 rfl) ?_
                refine n_iadd hx hb dL_joins_298 ?_
                refine y_ald X h (fun _ => rfl) (by decide) (hL (42, 0, 0, 0) ⟨by decide, rfl, rfl, rfl⟩) (by omega) (v := Y (42, 0, 0, 0) (6 * j + o)) ((congrFun (sset_eq _ _ _) _).trans ((ud_ne _ _ (by omega)).trans (KM_at hd ho hne ho))) dL_joins_299 ?_
                refine y_ast X h (fun _ => rfl) (by decide) (hL (42, 0, 0, 0) ⟨by decide, rfl, rfl, rfl⟩) (by omega) dL_joins_300 (fun H locs h => ?_)
                have h := h.law hW (K_s hd ho hne hv hw)
                refine n_iinc (j := j) (n := 1) (lv' := [(11, .int (nI (j + 1))), (12, .int (bI (mo Y e j && (kmk Y d j || kmk Y o j)))), (10, .int (nI (lgN Y d o e 4))), (0, .ref (ad (35, 0, 0, 0))), (1, .ref (ad (37, 0, 0, 0))), (2, .ref (ad (43, 0, 0, 0))), (3, .ref (ad (44, 0, 0, 0))), (4, .ref (ad (42, 0, 0, 0))), (5, .ref (ad (40, 0, 0, 0))), (6, .ref (ad (45, 0, 0, 0))), (7, .int (nI d)), (8, .int (nI o)), (9, .int (nI e))]) hx hb dL_joins_301 hl (k := 1) rfl (by decide) (by decide) rfl (fun ls hl => ?_)
                refine lv_goto (tgt := 149) hx hb dL_joins_304 (by decide) ?_
                exact ih149 (j + 1) (by omega) (by omega) H locs ls (h.eq (congrArg (lay tc ad gm dz) rfl)) (lv_sub hl [0, 2, 3, 4, 5, 6, 7, 8, 9, 10, 11, 12] rfl)
              · skip
                have hw : nI (t + 1) = tvN Y d o e j o := (tv_y c_213 c_277 hN.2.1).symm
                refine lv_aload hx hb dL_joins_280 (lv_at hl 9 rfl) ?_
                refine lv_iconst (v := nI 1) hx hb dL_joins_282 (by decide) ?_
                refine y_ald X h (fun _ => rfl) (by decide) (hL (45, 0, 0, 0) ⟨by decide, rfl, rfl, rfl⟩) (by omega) (v := nI t) ((congrFun (sset_ne _ _ (nek (by decide))) _).trans ((congrFun ((KM_see (by decide)).trans (JM_see (by decide) (by decide))) 1).trans hg1)) dL_joins_283 ?_
                refine lv_iconst (v := nI 1) hx hb dL_joins_284 (by decide) ?_
                refine n_iadd hx hb dL_joins_285 ?_
                refine lv_goto (tgt := 300) hx hb dL_joins_286 (by decide) ?_
                refine y_ast X h (fun _ => rfl) (by decide) (hL (42, 0, 0, 0) ⟨by decide, rfl, rfl, rfl⟩) (by omega) dL_joins_300 (fun H locs h => ?_)
                have h := h.law hW (K_s hd ho hne hv hw)
                refine n_iinc (j := j) (n := 1) (lv' := [(11, .int (nI (j + 1))), (12, .int (bI (mo Y e j && (kmk Y d j || kmk Y o j)))), (10, .int (nI (lgN Y d o e 4))), (0, .ref (ad (35, 0, 0, 0))), (1, .ref (ad (37, 0, 0, 0))), (2, .ref (ad (43, 0, 0, 0))), (3, .ref (ad (44, 0, 0, 0))), (4, .ref (ad (42, 0, 0, 0))), (5, .ref (ad (40, 0, 0, 0))), (6, .ref (ad (45, 0, 0, 0))), (7, .int (nI d)), (8, .int (nI o)), (9, .int (nI e))]) hx hb dL_joins_301 hl (k := 1) rfl (by decide) (by decide) rfl (fun ls hl => ?_)
                refine lv_goto (tgt := 149) hx hb dL_joins_304 (by decide) ?_
                exact ih149 (j + 1) (by omega) (by omega) H locs ls (h.eq (congrArg (lay tc ad gm dz) rfl)) (lv_sub hl [0, 2, 3, 4, 5, 6, 7, 8, 9, 10, 11, 12] rfl)
  · skip
    refine lv_aload_n hx hb dL_joins_12 rfl (lv_at hl 5 rfl) ?_
    refine lv_iload hx hb dL_joins_13 (lv_at hl 9 rfl) ?_
    refine lv_iload hx hb dL_joins_15 (lv_at hl 11 rfl) ?_
    refine lv_iload hx hb dL_joins_17 (lv_at hl 0 rfl) ?_
    refine x_doneI X h (x_runS X h (m_L_mayZ Y hL (JM Y d o e f) (JM_see (by decide) (by decide)) d e (by omega) (by omega) f (by omega) _) F_L_may q766 q767 rfl (by decide) (by decide) ⟨Nat.le_refl _, Nat.le_refl _⟩ hl.1 (Nat.le_of_ble_eq_true rfl) dL_joins_19 rfl) (fun H locs h => ?_)
    refine b_if_eq (tgt := 140) hx hb dL_joins_22 (by decide) (fun c_22 => ?_) (fun c_22 => ?_)
    · skip
      have hsn : shP Y d o e f = false := shP_n1 c_22
      have h := h.eq (congrArg (lay tc ad gm dz) (J_n hsn))
      have hlq : lgN Y d o e f = lgN Y d o e (f + 1) := by rw [lgN, hsn, if_neg (by decide), Nat.add_zero]
      rw [hlq] at hl
      refine n_iinc (j := f) (n := 1) (lv' := [(11, .int (nI (f + 1))), (10, .int (nI (lgN Y d o e (f + 1)))), (0, .ref (ad (35, 0, 0, 0))), (1, .ref (ad (37, 0, 0, 0))), (2, .ref (ad (43, 0, 0, 0))), (3, .ref (ad (44, 0, 0, 0))), (4, .ref (ad (42, 0, 0, 0))), (5, .ref (ad (40, 0, 0, 0))), (6, .ref (ad (45, 0, 0, 0))), (7, .int (nI d)), (8, .int (nI o)), (9, .int (nI e))]) hx hb dL_joins_140 hl (k := 0) rfl (by decide) (by decide) rfl (fun ls hl => ?_)
      refine lv_goto (tgt := 6) hx hb dL_joins_143 (by decide) ?_
      exact ih6 (f + 1) (by omega) (by omega) H locs ls (h.eq (congrArg (lay tc ad gm dz) rfl)) (lv_sub hl [0, 1, 2, 3, 4, 5, 6, 7, 8, 9, 10, 11] rfl)
    · skip
      refine lv_aload_n hx hb dL_joins_25 rfl (lv_at hl 5 rfl) ?_
      refine lv_iload hx hb dL_joins_26 (lv_at hl 10 rfl) ?_
      refine lv_iload hx hb dL_joins_28 (lv_at hl 11 rfl) ?_
      refine lv_iload hx hb dL_joins_30 (lv_at hl 0 rfl) ?_
      refine x_doneI X h (x_runS X h (m_L_mayZ Y hL (JM Y d o e f) (JM_see (by decide) (by decide)) o e (by omega) (by omega) f (by omega) _) F_L_may q766 q767 rfl (by decide) (by decide) ⟨Nat.le_refl _, Nat.le_refl _⟩ hl.1 (Nat.le_of_ble_eq_true rfl) dL_joins_32 rfl) (fun H locs h => ?_)
      refine b_if_eq (tgt := 140) hx hb dL_joins_35 (by decide) (fun c_35 => ?_) (fun c_35 => ?_)
      · skip
        have hsn : shP Y d o e f = false := shP_n2 c_35
        have h := h.eq (congrArg (lay tc ad gm dz) (J_n hsn))
        have hlq : lgN Y d o e f = lgN Y d o e (f + 1) := by rw [lgN, hsn, if_neg (by decide), Nat.add_zero]
        rw [hlq] at hl
        refine n_iinc (j := f) (n := 1) (lv' := [(11, .int (nI (f + 1))), (10, .int (nI (lgN Y d o e (f + 1)))), (0, .ref (ad (35, 0, 0, 0))), (1, .ref (ad (37, 0, 0, 0))), (2, .ref (ad (43, 0, 0, 0))), (3, .ref (ad (44, 0, 0, 0))), (4, .ref (ad (42, 0, 0, 0))), (5, .ref (ad (40, 0, 0, 0))), (6, .ref (ad (45, 0, 0, 0))), (7, .int (nI d)), (8, .int (nI o)), (9, .int (nI e))]) hx hb dL_joins_140 hl (k := 0) rfl (by decide) (by decide) rfl (fun ls hl => ?_)
        refine lv_goto (tgt := 6) hx hb dL_joins_143 (by decide) ?_
        exact ih6 (f + 1) (by omega) (by omega) H locs ls (h.eq (congrArg (lay tc ad gm dz) rfl)) (lv_sub hl [0, 1, 2, 3, 4, 5, 6, 7, 8, 9, 10, 11] rfl)
      · skip
        refine lv_iload hx hb dL_joins_38 (lv_at hl 9 rfl) ?_
        refine lv_iload hx hb dL_joins_40 (lv_at hl 11 rfl) ?_
        refine lv_iload hx hb dL_joins_42 (lv_at hl 0 rfl) ?_
        refine x_doneI X h (x_runS X h (m_L_at (JM Y d o e f) d e f _) F_L_at q744 q745 rfl (by decide) (by decide) ⟨Nat.le_refl _, Nat.le_refl _⟩ hl.1 (Nat.le_of_ble_eq_true rfl) dL_joins_44 rfl) (fun H locs h => ?_)
        refine lv_istore (lv' := [(12, .int (nI (8 * d + 4 * e + f))), (11, .int (nI f)), (10, .int (nI (lgN Y d o e f))), (0, .ref (ad (35, 0, 0, 0))), (1, .ref (ad (37, 0, 0, 0))), (2, .ref (ad (43, 0, 0, 0))), (3, .ref (ad (44, 0, 0, 0))), (4, .ref (ad (42, 0, 0, 0))), (5, .ref (ad (40, 0, 0, 0))), (6, .ref (ad (45, 0, 0, 0))), (7, .int (nI d)), (8, .int (nI o)), (9, .int (nI e))]) hx hb dL_joins_47 hl (by decide) rfl (fun ls hl => ?_)
        refine lv_iload hx hb dL_joins_49 (lv_at hl 11 rfl) ?_
        refine lv_iload hx hb dL_joins_51 (lv_at hl 12 rfl) ?_
        refine lv_iload hx hb dL_joins_53 (lv_at hl 1 rfl) ?_
        refine x_doneI X h (x_runS X h (m_L_at (JM Y d o e f) o e f _) F_L_at q744 q745 rfl (by decide) (by decide) ⟨Nat.le_refl _, Nat.le_refl _⟩ hl.1 (Nat.le_of_ble_eq_true rfl) dL_joins_55 rfl) (fun H locs h => ?_)
        refine lv_istore (lv' := [(13, .int (nI (8 * o + 4 * e + f))), (12, .int (nI (8 * d + 4 * e + f))), (11, .int (nI f)), (10, .int (nI (lgN Y d o e f))), (0, .ref (ad (35, 0, 0, 0))), (1, .ref (ad (37, 0, 0, 0))), (2, .ref (ad (43, 0, 0, 0))), (3, .ref (ad (44, 0, 0, 0))), (4, .ref (ad (42, 0, 0, 0))), (5, .ref (ad (40, 0, 0, 0))), (6, .ref (ad (45, 0, 0, 0))), (7, .int (nI d)), (8, .int (nI o)), (9, .int (nI e))]) hx hb dL_joins_58 hl (by decide) rfl (fun ls hl => ?_)
        refine lv_aload_n hx hb dL_joins_60 rfl (lv_at hl 4 rfl) ?_
        refine lv_iload hx hb dL_joins_61 (lv_at hl 1 rfl) ?_
        refine z_lald X h pkB (fun _ => rfl) (by decide) (hL (35, 0, 0, 0) ⟨by decide, rfl, rfl, rfl⟩) (by omega) (v := pk (rw6 (Y (35, 0, 0, 0)) (24 * (10 * d + e) + 6 * f))) ((pkB_at (by omega) (by omega)).trans (lp_congr (fun k hk => (J_at he hne (by omega) hk).1))) dL_joins_63 ?_
        refine lv_aload_n hx hb dL_joins_64 rfl (lv_at hl 4 rfl) ?_
        refine lv_iload hx hb dL_joins_65 (lv_at hl 0 rfl) ?_
        refine z_lald X h pkB (fun _ => rfl) (by decide) (hL (35, 0, 0, 0) ⟨by decide, rfl, rfl, rfl⟩) (by omega) (v := pk (rw6 (Y (35, 0, 0, 0)) (24 * (10 * o + e) + 6 * f))) ((pkB_at (by omega) (by omega)).trans (lp_congr (fun k hk => (J_at he hne (by omega) hk).1))) dL_joins_67 ?_
        refine lv_aload_n hx hb dL_joins_68 rfl (lv_at hl 5 rfl) ?_
        refine lv_iload hx hb dL_joins_69 (lv_at hl 1 rfl) ?_
        refine z_lald X h pkB (fun _ => rfl) (by decide) (hL (37, 0, 0, 0) ⟨by decide, rfl, rfl, rfl⟩) (by omega) (v := pk (rw6 (Y (37, 0, 0, 0)) (24 * (10 * d + e) + 6 * f))) ((pkB_at (by omega) (by omega)).trans (lp_congr (fun k hk => (J_at he hne (by omega) hk).2))) dL_joins_71 ?_
        refine lv_aload_n hx hb dL_joins_72 rfl (lv_at hl 5 rfl) ?_
        refine lv_iload hx hb dL_joins_73 (lv_at hl 0 rfl) ?_
        refine z_lald X h pkB (fun _ => rfl) (by decide) (hL (37, 0, 0, 0) ⟨by decide, rfl, rfl, rfl⟩) (by omega) (v := pk (rw6 (Y (37, 0, 0, 0)) (24 * (10 * o + e) + 6 * f))) ((pkB_at (by omega) (by omega)).trans (lp_congr (fun k hk => (J_at he hne (by omega) hk).2))) dL_joins_75 ?_
        refine x_doneL X h (x_runS X h (m_L_joined (JM Y d o e f) (rw6 (Y (35, 0, 0, 0)) (24 * (10 * d + e) + 6 * f)) (rw6 (Y (35, 0, 0, 0)) (24 * (10 * o + e) + 6 * f)) (rw6 (Y (37, 0, 0, 0)) (24 * (10 * d + e) + 6 * f)) (rw6 (Y (37, 0, 0, 0)) (24 * (10 * o + e) + 6 * f)) (fun _ _ => hB.1 _) (fun _ _ => hB.1 _) (fun _ _ => hB.2.1 _) (fun _ _ => hB.2.1 _) _) F_L_joined q787 q788 rfl (by decide) (by decide) ⟨Nat.le_refl _, Nat.le_refl _⟩ hl.1 (Nat.le_of_ble_eq_true rfl) dL_joins_76 rfl) (fun H locs h => ?_)
        refine lv_lstore (lv' := [(14, .long (pk (jnd (rw6 (Y (35, 0, 0, 0)) (24 * (10 * d + e) + 6 * f)) (rw6 (Y (35, 0, 0, 0)) (24 * (10 * o + e) + 6 * f)) (rw6 (Y (37, 0, 0, 0)) (24 * (10 * d + e) + 6 * f)) (rw6 (Y (37, 0, 0, 0)) (24 * (10 * o + e) + 6 * f))))), (13, .int (nI (8 * o + 4 * e + f))), (12, .int (nI (8 * d + 4 * e + f))), (11, .int (nI f)), (10, .int (nI (lgN Y d o e f))), (0, .ref (ad (35, 0, 0, 0))), (1, .ref (ad (37, 0, 0, 0))), (2, .ref (ad (43, 0, 0, 0))), (3, .ref (ad (44, 0, 0, 0))), (4, .ref (ad (42, 0, 0, 0))), (5, .ref (ad (40, 0, 0, 0))), (6, .ref (ad (45, 0, 0, 0))), (7, .int (nI d)), (8, .int (nI o)), (9, .int (nI e))]) hx hb dL_joins_79 hl (by decide) rfl (fun ls hl => ?_)
        refine lv_iload hx hb dL_joins_81 (lv_at hl 4 rfl) ?_
        refine lv_aload_n hx hb dL_joins_83 rfl (lv_at hl 5 rfl) ?_
        refine lv_iload hx hb dL_joins_84 (lv_at hl 2 rfl) ?_
        refine z_lald X h pkB (fun _ => rfl) (by decide) (hL (35, 0, 0, 0) ⟨by decide, rfl, rfl, rfl⟩) (by omega) (v := pk (rw6 (Y (35, 0, 0, 0)) (24 * (10 * d + e) + 6 * f))) ((pkB_at (by omega) (by omega)).trans (lp_congr (fun k hk => (J_at he hne (by omega) hk).1))) dL_joins_86 ?_
        refine lv_lload hx hb dL_joins_87 (lv_at hl 0 rfl) ?_
        refine x_doneI X h (x_runS X h (m_L_fresh (JM Y d o e f) (rw6 (Y (35, 0, 0, 0)) (24 * (10 * d + e) + 6 * f)) (jnd (rw6 (Y (35, 0, 0, 0)) (24 * (10 * d + e) + 6 * f)) (rw6 (Y (35, 0, 0, 0)) (24 * (10 * o + e) + 6 * f)) (rw6 (Y (37, 0, 0, 0)) (24 * (10 * d + e) + 6 * f)) (rw6 (Y (37, 0, 0, 0)) (24 * (10 * o + e) + 6 * f))) (fun _ _ => hB.1 _) (fun _ _ => sm6_jnd (hB.1 _) (hB.1 _)) _) F_L_fresh q790 q791 rfl (by decide) (by decide) ⟨Nat.le_refl _, Nat.le_refl _⟩ hl.1 (Nat.le_of_ble_eq_true rfl) dL_joins_89 rfl) (fun H locs h => ?_)
        refine lv_aload_n hx hb dL_joins_92 rfl (lv_at hl 5 rfl) ?_
        refine lv_iload hx hb dL_joins_93 (lv_at hl 1 rfl) ?_
        refine z_lald X h pkB (fun _ => rfl) (by decide) (hL (35, 0, 0, 0) ⟨by decide, rfl, rfl, rfl⟩) (by omega) (v := pk (rw6 (Y (35, 0, 0, 0)) (24 * (10 * o + e) + 6 * f))) ((pkB_at (by omega) (by omega)).trans (lp_congr (fun k hk => (J_at he hne (by omega) hk).1))) dL_joins_95 ?_
        refine lv_lload hx hb dL_joins_96 (lv_at hl 0 rfl) ?_
        refine x_doneI X h (x_runS X h (m_L_fresh (JM Y d o e f) (rw6 (Y (35, 0, 0, 0)) (24 * (10 * o + e) + 6 * f)) (jnd (rw6 (Y (35, 0, 0, 0)) (24 * (10 * d + e) + 6 * f)) (rw6 (Y (35, 0, 0, 0)) (24 * (10 * o + e) + 6 * f)) (rw6 (Y (37, 0, 0, 0)) (24 * (10 * d + e) + 6 * f)) (rw6 (Y (37, 0, 0, 0)) (24 * (10 * o + e) + 6 * f))) (fun _ _ => hB.1 _) (fun _ _ => sm6_jnd (hB.1 _) (hB.1 _)) _) F_L_fresh q790 q791 rfl (by decide) (by decide) ⟨Nat.le_refl _, Nat.le_refl _⟩ hl.1 (Nat.le_of_ble_eq_true rfl) dL_joins_98 rfl) (fun H locs h => ?_)
        refine n_iadd hx hb dL_joins_101 ?_
        refine n_iadd hx hb dL_joins_102 ?_
        rw [show lgN Y d o e f + ((frs (rw6 (Y (35, 0, 0, 0)) (24 * (10 * d + e) + 6 * f)) (jnd (rw6 (Y (35, 0, 0, 0)) (24 * (10 * d + e) + 6 * f)) (rw6 (Y (35, 0, 0, 0)) (24 * (10 * o + e) + 6 * f)) (rw6 (Y (37, 0, 0, 0)) (24 * (10 * d + e) + 6 * f)) (rw6 (Y (37, 0, 0, 0)) (24 * (10 * o + e) + 6 * f)))) + (frs (rw6 (Y (35, 0, 0, 0)) (24 * (10 * o + e) + 6 * f)) (jnd (rw6 (Y (35, 0, 0, 0)) (24 * (10 * d + e) + 6 * f)) (rw6 (Y (35, 0, 0, 0)) (24 * (10 * o + e) + 6 * f)) (rw6 (Y (37, 0, 0, 0)) (24 * (10 * d + e) + 6 * f)) (rw6 (Y (37, 0, 0, 0)) (24 * (10 * o + e) + 6 * f))))) = lgN Y d o e (f + 1) by rw [lgN, shP_of c_22 c_35, if_pos rfl]]
        refine lv_istore (lv' := [(10, .int (nI (lgN Y d o e (f + 1)))), (14, .long (pk (jnd (rw6 (Y (35, 0, 0, 0)) (24 * (10 * d + e) + 6 * f)) (rw6 (Y (35, 0, 0, 0)) (24 * (10 * o + e) + 6 * f)) (rw6 (Y (37, 0, 0, 0)) (24 * (10 * d + e) + 6 * f)) (rw6 (Y (37, 0, 0, 0)) (24 * (10 * o + e) + 6 * f))))), (13, .int (nI (8 * o + 4 * e + f))), (12, .int (nI (8 * d + 4 * e + f))), (11, .int (nI f)), (0, .ref (ad (35, 0, 0, 0))), (1, .ref (ad (37, 0, 0, 0))), (2, .ref (ad (43, 0, 0, 0))), (3, .ref (ad (44, 0, 0, 0))), (4, .ref (ad (42, 0, 0, 0))), (5, .ref (ad (40, 0, 0, 0))), (6, .ref (ad (45, 0, 0, 0))), (7, .int (nI d)), (8, .int (nI o)), (9, .int (nI e))]) hx hb dL_joins_103 hl (by decide) rfl (fun ls hl => ?_)
        refine lv_aload_n hx hb dL_joins_105 rfl (lv_at hl 5 rfl) ?_
        refine lv_iload hx hb dL_joins_106 (lv_at hl 3 rfl) ?_
        refine lv_lload hx hb dL_joins_108 (lv_at hl 1 rfl) ?_
        refine z_last X h pkB (fun _ => rfl) (by decide) (hL (35, 0, 0, 0) ⟨by decide, rfl, rfl, rfl⟩) (by omega) (st6 ((JM Y d o e f) (35, 0, 0, 0)) (24 * (10 * d + e) + 6 * f) (jnd (rw6 (Y (35, 0, 0, 0)) (24 * (10 * d + e) + 6 * f)) (rw6 (Y (35, 0, 0, 0)) (24 * (10 * o + e) + 6 * f)) (rw6 (Y (37, 0, 0, 0)) (24 * (10 * d + e) + 6 * f)) (rw6 (Y (37, 0, 0, 0)) (24 * (10 * o + e) + 6 * f)))) (lastB (by omega) (by omega)) dL_joins_110 (fun H locs h => ?_)
        refine lv_aload_n hx hb dL_joins_111 rfl (lv_at hl 5 rfl) ?_
        refine lv_iload hx hb dL_joins_112 (lv_at hl 2 rfl) ?_
        refine lv_lload hx hb dL_joins_114 (lv_at hl 1 rfl) ?_
        refine z_last X h pkB (fun _ => rfl) (by decide) (hL (35, 0, 0, 0) ⟨by decide, rfl, rfl, rfl⟩) (by omega) (st6 ((sset (JM Y d o e f) (35, 0, 0, 0) (st6 ((JM Y d o e f) (35, 0, 0, 0)) (24 * (10 * d + e) + 6 * f) (jnd (rw6 (Y (35, 0, 0, 0)) (24 * (10 * d + e) + 6 * f)) (rw6 (Y (35, 0, 0, 0)) (24 * (10 * o + e) + 6 * f)) (rw6 (Y (37, 0, 0, 0)) (24 * (10 * d + e) + 6 * f)) (rw6 (Y (37, 0, 0, 0)) (24 * (10 * o + e) + 6 * f))))) (35, 0, 0, 0)) (24 * (10 * o + e) + 6 * f) (jnd (rw6 (Y (35, 0, 0, 0)) (24 * (10 * d + e) + 6 * f)) (rw6 (Y (35, 0, 0, 0)) (24 * (10 * o + e) + 6 * f)) (rw6 (Y (37, 0, 0, 0)) (24 * (10 * d + e) + 6 * f)) (rw6 (Y (37, 0, 0, 0)) (24 * (10 * o + e) + 6 * f)))) (lastB (by omega) (by omega)) dL_joins_116 (fun H locs h => ?_)
        refine lv_aload_n hx hb dL_joins_117 rfl (lv_at hl 6 rfl) ?_
        refine lv_iload hx hb dL_joins_118 (lv_at hl 3 rfl) ?_
        refine lv_aload_n hx hb dL_joins_120 rfl (lv_at hl 6 rfl) ?_
        refine lv_iload hx hb dL_joins_121 (lv_at hl 3 rfl) ?_
        refine z_lald X h pkB (fun _ => rfl) (by decide) (hL (37, 0, 0, 0) ⟨by decide, rfl, rfl, rfl⟩) (by omega) (v := pk (rw6 (Y (37, 0, 0, 0)) (24 * (10 * d + e) + 6 * f))) ((pkB_at (by omega) (by omega)).trans (lp_congr (fun k hk => (J_at he hne (by omega) hk).2))) dL_joins_123 ?_
        refine lv_aload_n hx hb dL_joins_124 rfl (lv_at hl 6 rfl) ?_
        refine lv_iload hx hb dL_joins_125 (lv_at hl 2 rfl) ?_
        refine z_lald X h pkB (fun _ => rfl) (by decide) (hL (37, 0, 0, 0) ⟨by decide, rfl, rfl, rfl⟩) (by omega) (v := pk (rw6 (Y (37, 0, 0, 0)) (24 * (10 * o + e) + 6 * f))) ((pkB_at (by omega) (by omega)).trans (lp_congr (fun k hk => (J_at he hne (by omega) hk).2))) dL_joins_127 ?_
        refine x_doneL X h (x_runS X h (m_L_greater (sset (sset (JM Y d o e f) (35, 0, 0, 0) (st6 ((JM Y d o e f) (35, 0, 0, 0)) (24 * (10 * d + e) + 6 * f) (jnd (rw6 (Y (35, 0, 0, 0)) (24 * (10 * d + e) + 6 * f)) (rw6 (Y (35, 0, 0, 0)) (24 * (10 * o + e) + 6 * f)) (rw6 (Y (37, 0, 0, 0)) (24 * (10 * d + e) + 6 * f)) (rw6 (Y (37, 0, 0, 0)) (24 * (10 * o + e) + 6 * f))))) (35, 0, 0, 0) (st6 ((sset (JM Y d o e f) (35, 0, 0, 0) (st6 ((JM Y d o e f) (35, 0, 0, 0)) (24 * (10 * d + e) + 6 * f) (jnd (rw6 (Y (35, 0, 0, 0)) (24 * (10 * d + e) + 6 * f)) (rw6 (Y (35, 0, 0, 0)) (24 * (10 * o + e) + 6 * f)) (rw6 (Y (37, 0, 0, 0)) (24 * (10 * d + e) + 6 * f)) (rw6 (Y (37, 0, 0, 0)) (24 * (10 * o + e) + 6 * f))))) (35, 0, 0, 0)) (24 * (10 * o + e) + 6 * f) (jnd (rw6 (Y (35, 0, 0, 0)) (24 * (10 * d + e) + 6 * f)) (rw6 (Y (35, 0, 0, 0)) (24 * (10 * o + e) + 6 * f)) (rw6 (Y (37, 0, 0, 0)) (24 * (10 * d + e) + 6 * f)) (rw6 (Y (37, 0, 0, 0)) (24 * (10 * o + e) + 6 * f))))) (rw6 (Y (37, 0, 0, 0)) (24 * (10 * d + e) + 6 * f)) (rw6 (Y (37, 0, 0, 0)) (24 * (10 * o + e) + 6 * f)) (fun _ _ => hB.2.1 _) (fun _ _ => hB.2.1 _) _) F_L_greater q772 q773 rfl (by decide) (by decide) ⟨Nat.le_refl _, Nat.le_refl _⟩ hl.1 (Nat.le_of_ble_eq_true rfl) dL_joins_128 rfl) (fun H locs h => ?_)
        refine z_last X h pkB (fun _ => rfl) (by decide) (hL (37, 0, 0, 0) ⟨by decide, rfl, rfl, rfl⟩) (by omega) (st6 ((sset (sset (JM Y d o e f) (35, 0, 0, 0) (st6 ((JM Y d o e f) (35, 0, 0, 0)) (24 * (10 * d + e) + 6 * f) (jnd (rw6 (Y (35, 0, 0, 0)) (24 * (10 * d + e) + 6 * f)) (rw6 (Y (35, 0, 0, 0)) (24 * (10 * o + e) + 6 * f)) (rw6 (Y (37, 0, 0, 0)) (24 * (10 * d + e) + 6 * f)) (rw6 (Y (37, 0, 0, 0)) (24 * (10 * o + e) + 6 * f))))) (35, 0, 0, 0) (st6 ((sset (JM Y d o e f) (35, 0, 0, 0) (st6 ((JM Y d o e f) (35, 0, 0, 0)) (24 * (10 * d + e) + 6 * f) (jnd (rw6 (Y (35, 0, 0, 0)) (24 * (10 * d + e) + 6 * f)) (rw6 (Y (35, 0, 0, 0)) (24 * (10 * o + e) + 6 * f)) (rw6 (Y (37, 0, 0, 0)) (24 * (10 * d + e) + 6 * f)) (rw6 (Y (37, 0, 0, 0)) (24 * (10 * o + e) + 6 * f))))) (35, 0, 0, 0)) (24 * (10 * o + e) + 6 * f) (jnd (rw6 (Y (35, 0, 0, 0)) (24 * (10 * d + e) + 6 * f)) (rw6 (Y (35, 0, 0, 0)) (24 * (10 * o + e) + 6 * f)) (rw6 (Y (37, 0, 0, 0)) (24 * (10 * d + e) + 6 * f)) (rw6 (Y (37, 0, 0, 0)) (24 * (10 * o + e) + 6 * f))))) (37, 0, 0, 0)) (24 * (10 * d + e) + 6 * f) (gM (rw6 (Y (37, 0, 0, 0)) (24 * (10 * d + e) + 6 * f)) (rw6 (Y (37, 0, 0, 0)) (24 * (10 * o + e) + 6 * f)))) (lastB (by omega) (by omega)) dL_joins_131 (fun H locs h => ?_)
        refine lv_aload_n hx hb dL_joins_132 rfl (lv_at hl 6 rfl) ?_
        refine lv_iload hx hb dL_joins_133 (lv_at hl 2 rfl) ?_
        refine lv_aload_n hx hb dL_joins_135 rfl (lv_at hl 6 rfl) ?_
        refine lv_iload hx hb dL_joins_136 (lv_at hl 3 rfl) ?_
        refine z_lald X h pkB (fun _ => rfl) (by decide) (hL (37, 0, 0, 0) ⟨by decide, rfl, rfl, rfl⟩) (by omega) (v := pk (gM (rw6 (Y (37, 0, 0, 0)) (24 * (10 * d + e) + 6 * f)) (rw6 (Y (37, 0, 0, 0)) (24 * (10 * o + e) + 6 * f)))) ((pkB_at (by omega) (by omega)).trans (lp_congr (fun k hk => st6_in hk))) dL_joins_138 ?_
        refine z_last X h pkB (fun _ => rfl) (by decide) (hL (37, 0, 0, 0) ⟨by decide, rfl, rfl, rfl⟩) (by omega) (st6 ((sset (sset (sset (JM Y d o e f) (35, 0, 0, 0) (st6 ((JM Y d o e f) (35, 0, 0, 0)) (24 * (10 * d + e) + 6 * f) (jnd (rw6 (Y (35, 0, 0, 0)) (24 * (10 * d + e) + 6 * f)) (rw6 (Y (35, 0, 0, 0)) (24 * (10 * o + e) + 6 * f)) (rw6 (Y (37, 0, 0, 0)) (24 * (10 * d + e) + 6 * f)) (rw6 (Y (37, 0, 0, 0)) (24 * (10 * o + e) + 6 * f))))) (35, 0, 0, 0) (st6 ((sset (JM Y d o e f) (35, 0, 0, 0) (st6 ((JM Y d o e f) (35, 0, 0, 0)) (24 * (10 * d + e) + 6 * f) (jnd (rw6 (Y (35, 0, 0, 0)) (24 * (10 * d + e) + 6 * f)) (rw6 (Y (35, 0, 0, 0)) (24 * (10 * o + e) + 6 * f)) (rw6 (Y (37, 0, 0, 0)) (24 * (10 * d + e) + 6 * f)) (rw6 (Y (37, 0, 0, 0)) (24 * (10 * o + e) + 6 * f))))) (35, 0, 0, 0)) (24 * (10 * o + e) + 6 * f) (jnd (rw6 (Y (35, 0, 0, 0)) (24 * (10 * d + e) + 6 * f)) (rw6 (Y (35, 0, 0, 0)) (24 * (10 * o + e) + 6 * f)) (rw6 (Y (37, 0, 0, 0)) (24 * (10 * d + e) + 6 * f)) (rw6 (Y (37, 0, 0, 0)) (24 * (10 * o + e) + 6 * f))))) (37, 0, 0, 0) (st6 ((sset (sset (JM Y d o e f) (35, 0, 0, 0) (st6 ((JM Y d o e f) (35, 0, 0, 0)) (24 * (10 * d + e) + 6 * f) (jnd (rw6 (Y (35, 0, 0, 0)) (24 * (10 * d + e) + 6 * f)) (rw6 (Y (35, 0, 0, 0)) (24 * (10 * o + e) + 6 * f)) (rw6 (Y (37, 0, 0, 0)) (24 * (10 * d + e) + 6 * f)) (rw6 (Y (37, 0, 0, 0)) (24 * (10 * o + e) + 6 * f))))) (35, 0, 0, 0) (st6 ((sset (JM Y d o e f) (35, 0, 0, 0) (st6 ((JM Y d o e f) (35, 0, 0, 0)) (24 * (10 * d + e) + 6 * f) (jnd (rw6 (Y (35, 0, 0, 0)) (24 * (10 * d + e) + 6 * f)) (rw6 (Y (35, 0, 0, 0)) (24 * (10 * o + e) + 6 * f)) (rw6 (Y (37, 0, 0, 0)) (24 * (10 * d + e) + 6 * f)) (rw6 (Y (37, 0, 0, 0)) (24 * (10 * o + e) + 6 * f))))) (35, 0, 0, 0)) (24 * (10 * o + e) + 6 * f) (jnd (rw6 (Y (35, 0, 0, 0)) (24 * (10 * d + e) + 6 * f)) (rw6 (Y (35, 0, 0, 0)) (24 * (10 * o + e) + 6 * f)) (rw6 (Y (37, 0, 0, 0)) (24 * (10 * d + e) + 6 * f)) (rw6 (Y (37, 0, 0, 0)) (24 * (10 * o + e) + 6 * f))))) (37, 0, 0, 0)) (24 * (10 * d + e) + 6 * f) (gM (rw6 (Y (37, 0, 0, 0)) (24 * (10 * d + e) + 6 * f)) (rw6 (Y (37, 0, 0, 0)) (24 * (10 * o + e) + 6 * f))))) (37, 0, 0, 0)) (24 * (10 * o + e) + 6 * f) (gM (rw6 (Y (37, 0, 0, 0)) (24 * (10 * d + e) + 6 * f)) (rw6 (Y (37, 0, 0, 0)) (24 * (10 * o + e) + 6 * f)))) (lastB (by omega) (by omega)) dL_joins_139 (fun H locs h => ?_)
        have h := h.eq (congrArg (lay tc ad gm dz) (show (sset (sset (sset (sset (JM Y d o e f) (35, 0, 0, 0) (st6 ((JM Y d o e f) (35, 0, 0, 0)) (24 * (10 * d + e) + 6 * f) (jnd (rw6 (Y (35, 0, 0, 0)) (24 * (10 * d + e) + 6 * f)) (rw6 (Y (35, 0, 0, 0)) (24 * (10 * o + e) + 6 * f)) (rw6 (Y (37, 0, 0, 0)) (24 * (10 * d + e) + 6 * f)) (rw6 (Y (37, 0, 0, 0)) (24 * (10 * o + e) + 6 * f))))) (35, 0, 0, 0) (st6 ((sset (JM Y d o e f) (35, 0, 0, 0) (st6 ((JM Y d o e f) (35, 0, 0, 0)) (24 * (10 * d + e) + 6 * f) (jnd (rw6 (Y (35, 0, 0, 0)) (24 * (10 * d + e) + 6 * f)) (rw6 (Y (35, 0, 0, 0)) (24 * (10 * o + e) + 6 * f)) (rw6 (Y (37, 0, 0, 0)) (24 * (10 * d + e) + 6 * f)) (rw6 (Y (37, 0, 0, 0)) (24 * (10 * o + e) + 6 * f))))) (35, 0, 0, 0)) (24 * (10 * o + e) + 6 * f) (jnd (rw6 (Y (35, 0, 0, 0)) (24 * (10 * d + e) + 6 * f)) (rw6 (Y (35, 0, 0, 0)) (24 * (10 * o + e) + 6 * f)) (rw6 (Y (37, 0, 0, 0)) (24 * (10 * d + e) + 6 * f)) (rw6 (Y (37, 0, 0, 0)) (24 * (10 * o + e) + 6 * f))))) (37, 0, 0, 0) (st6 ((sset (sset (JM Y d o e f) (35, 0, 0, 0) (st6 ((JM Y d o e f) (35, 0, 0, 0)) (24 * (10 * d + e) + 6 * f) (jnd (rw6 (Y (35, 0, 0, 0)) (24 * (10 * d + e) + 6 * f)) (rw6 (Y (35, 0, 0, 0)) (24 * (10 * o + e) + 6 * f)) (rw6 (Y (37, 0, 0, 0)) (24 * (10 * d + e) + 6 * f)) (rw6 (Y (37, 0, 0, 0)) (24 * (10 * o + e) + 6 * f))))) (35, 0, 0, 0) (st6 ((sset (JM Y d o e f) (35, 0, 0, 0) (st6 ((JM Y d o e f) (35, 0, 0, 0)) (24 * (10 * d + e) + 6 * f) (jnd (rw6 (Y (35, 0, 0, 0)) (24 * (10 * d + e) + 6 * f)) (rw6 (Y (35, 0, 0, 0)) (24 * (10 * o + e) + 6 * f)) (rw6 (Y (37, 0, 0, 0)) (24 * (10 * d + e) + 6 * f)) (rw6 (Y (37, 0, 0, 0)) (24 * (10 * o + e) + 6 * f))))) (35, 0, 0, 0)) (24 * (10 * o + e) + 6 * f) (jnd (rw6 (Y (35, 0, 0, 0)) (24 * (10 * d + e) + 6 * f)) (rw6 (Y (35, 0, 0, 0)) (24 * (10 * o + e) + 6 * f)) (rw6 (Y (37, 0, 0, 0)) (24 * (10 * d + e) + 6 * f)) (rw6 (Y (37, 0, 0, 0)) (24 * (10 * o + e) + 6 * f))))) (37, 0, 0, 0)) (24 * (10 * d + e) + 6 * f) (gM (rw6 (Y (37, 0, 0, 0)) (24 * (10 * d + e) + 6 * f)) (rw6 (Y (37, 0, 0, 0)) (24 * (10 * o + e) + 6 * f))))) (37, 0, 0, 0) (st6 ((sset (sset (sset (JM Y d o e f) (35, 0, 0, 0) (st6 ((JM Y d o e f) (35, 0, 0, 0)) (24 * (10 * d + e) + 6 * f) (jnd (rw6 (Y (35, 0, 0, 0)) (24 * (10 * d + e) + 6 * f)) (rw6 (Y (35, 0, 0, 0)) (24 * (10 * o + e) + 6 * f)) (rw6 (Y (37, 0, 0, 0)) (24 * (10 * d + e) + 6 * f)) (rw6 (Y (37, 0, 0, 0)) (24 * (10 * o + e) + 6 * f))))) (35, 0, 0, 0) (st6 ((sset (JM Y d o e f) (35, 0, 0, 0) (st6 ((JM Y d o e f) (35, 0, 0, 0)) (24 * (10 * d + e) + 6 * f) (jnd (rw6 (Y (35, 0, 0, 0)) (24 * (10 * d + e) + 6 * f)) (rw6 (Y (35, 0, 0, 0)) (24 * (10 * o + e) + 6 * f)) (rw6 (Y (37, 0, 0, 0)) (24 * (10 * d + e) + 6 * f)) (rw6 (Y (37, 0, 0, 0)) (24 * (10 * o + e) + 6 * f))))) (35, 0, 0, 0)) (24 * (10 * o + e) + 6 * f) (jnd (rw6 (Y (35, 0, 0, 0)) (24 * (10 * d + e) + 6 * f)) (rw6 (Y (35, 0, 0, 0)) (24 * (10 * o + e) + 6 * f)) (rw6 (Y (37, 0, 0, 0)) (24 * (10 * d + e) + 6 * f)) (rw6 (Y (37, 0, 0, 0)) (24 * (10 * o + e) + 6 * f))))) (37, 0, 0, 0) (st6 ((sset (sset (JM Y d o e f) (35, 0, 0, 0) (st6 ((JM Y d o e f) (35, 0, 0, 0)) (24 * (10 * d + e) + 6 * f) (jnd (rw6 (Y (35, 0, 0, 0)) (24 * (10 * d + e) + 6 * f)) (rw6 (Y (35, 0, 0, 0)) (24 * (10 * o + e) + 6 * f)) (rw6 (Y (37, 0, 0, 0)) (24 * (10 * d + e) + 6 * f)) (rw6 (Y (37, 0, 0, 0)) (24 * (10 * o + e) + 6 * f))))) (35, 0, 0, 0) (st6 ((sset (JM Y d o e f) (35, 0, 0, 0) (st6 ((JM Y d o e f) (35, 0, 0, 0)) (24 * (10 * d + e) + 6 * f) (jnd (rw6 (Y (35, 0, 0, 0)) (24 * (10 * d + e) + 6 * f)) (rw6 (Y (35, 0, 0, 0)) (24 * (10 * o + e) + 6 * f)) (rw6 (Y (37, 0, 0, 0)) (24 * (10 * d + e) + 6 * f)) (rw6 (Y (37, 0, 0, 0)) (24 * (10 * o + e) + 6 * f))))) (35, 0, 0, 0)) (24 * (10 * o + e) + 6 * f) (jnd (rw6 (Y (35, 0, 0, 0)) (24 * (10 * d + e) + 6 * f)) (rw6 (Y (35, 0, 0, 0)) (24 * (10 * o + e) + 6 * f)) (rw6 (Y (37, 0, 0, 0)) (24 * (10 * d + e) + 6 * f)) (rw6 (Y (37, 0, 0, 0)) (24 * (10 * o + e) + 6 * f))))) (37, 0, 0, 0)) (24 * (10 * d + e) + 6 * f) (gM (rw6 (Y (37, 0, 0, 0)) (24 * (10 * d + e) + 6 * f)) (rw6 (Y (37, 0, 0, 0)) (24 * (10 * o + e) + 6 * f))))) (37, 0, 0, 0)) (24 * (10 * o + e) + 6 * f) (gM (rw6 (Y (37, 0, 0, 0)) (24 * (10 * d + e) + 6 * f)) (rw6 (Y (37, 0, 0, 0)) (24 * (10 * o + e) + 6 * f))))) = (J4 Y d o e f (jnd (rw6 (Y (35, 0, 0, 0)) (24 * (10 * d + e) + 6 * f)) (rw6 (Y (35, 0, 0, 0)) (24 * (10 * o + e) + 6 * f)) (rw6 (Y (37, 0, 0, 0)) (24 * (10 * d + e) + 6 * f)) (rw6 (Y (37, 0, 0, 0)) (24 * (10 * o + e) + 6 * f))) (gM (rw6 (Y (37, 0, 0, 0)) (24 * (10 * d + e) + 6 * f)) (rw6 (Y (37, 0, 0, 0)) (24 * (10 * o + e) + 6 * f))) (gM (rw6 (Y (37, 0, 0, 0)) (24 * (10 * d + e) + 6 * f)) (rw6 (Y (37, 0, 0, 0)) (24 * (10 * o + e) + 6 * f)))) from rfl))
        have h := h.law hW (J_s hB hd ho he hne (by omega) (shP_of c_22 c_35) (fun k _ => rfl) (fun k _ => rfl) (fun k _ => rfl))
        refine n_iinc (j := f) (n := 1) (lv' := [(11, .int (nI (f + 1))), (10, .int (nI (lgN Y d o e (f + 1)))), (14, .long (pk (jnd (rw6 (Y (35, 0, 0, 0)) (24 * (10 * d + e) + 6 * f)) (rw6 (Y (35, 0, 0, 0)) (24 * (10 * o + e) + 6 * f)) (rw6 (Y (37, 0, 0, 0)) (24 * (10 * d + e) + 6 * f)) (rw6 (Y (37, 0, 0, 0)) (24 * (10 * o + e) + 6 * f))))), (13, .int (nI (8 * o + 4 * e + f))), (12, .int (nI (8 * d + 4 * e + f))), (0, .ref (ad (35, 0, 0, 0))), (1, .ref (ad (37, 0, 0, 0))), (2, .ref (ad (43, 0, 0, 0))), (3, .ref (ad (44, 0, 0, 0))), (4, .ref (ad (42, 0, 0, 0))), (5, .ref (ad (40, 0, 0, 0))), (6, .ref (ad (45, 0, 0, 0))), (7, .int (nI d)), (8, .int (nI o)), (9, .int (nI e))]) hx hb dL_joins_140 hl (k := 4) rfl (by decide) (by decide) rfl (fun ls hl => ?_)
        refine lv_goto (tgt := 6) hx hb dL_joins_143 (by decide) ?_
        exact ih6 (f + 1) (by omega) (by omega) H locs ls (h.eq (congrArg (lay tc ad gm dz) rfl)) (lv_sub hl [0, 1, 5, 6, 7, 8, 9, 10, 11, 12, 13, 14] rfl)
