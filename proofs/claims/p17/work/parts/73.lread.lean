set_option maxHeartbeats 4000000 in
set_option maxRecDepth 100000 in
theorem m_L_all {l : Launch} {D : va_G} {tc : TC} {dz : Nat} {ad : KN → Nat} {Ks : List KN} {gm : GM} (X : Mem) (hL : LV gm Ks) (hB : BR X) (d e : Nat) (hd : d < 6) (he : e < 2) : MI l yL_all cL_all 5 (Option.some ClassFile.FieldType.int) 2 D tc dz ad Ks (lay tc ad gm dz (LL X)) [.ref (ad (35, 0, 0, 0)), .int (nI d), .int (nI e)] (nI (cnA X d e 4)) (lay tc ad gm dz (LL X)) := by
  intro sz
  refine x_ofW (by decide +kernel) (Nat.le_of_ble_eq_true rfl) (fun pp ee s mm bel meth cd ls X hr hin hz h hl => ?_)
  subst hz
  obtain ⟨hx, hb, hmaxL, hown, hts⟩ := id X.1
  have hl : lv_has ls 5 [(0, .ref (ad (35, 0, 0, 0))), (1, .int (nI d)), (2, .int (nI e))] := hl
  refine lv_iconst (v := nI 0) hx hb dL_all_0 (by decide) ?_
  refine lv_istore_n (lv' := [(3, .int (nI 0)), (0, .ref (ad (35, 0, 0, 0))), (1, .int (nI d)), (2, .int (nI e))]) hx hb dL_all_1 rfl hl (by decide) rfl (fun ls hl => ?_)
  refine lv_iconst (v := nI 0) hx hb dL_all_2 (by decide) ?_
  refine lv_istore (lv' := [(4, .int (nI 0)), (3, .int (nI 0)), (0, .ref (ad (35, 0, 0, 0))), (1, .int (nI d)), (2, .int (nI e))]) hx hb dL_all_3 hl (by decide) rfl (fun ls hl => ?_)
  refine y_loop (D := D) (A := wA ad Ks s.heap.size) (ad := ad) (Ks := Ks) (nL := 5) (fun f : Nat => lay tc ad gm dz (LL X)) (fun f => [(4, .int (nI f)), (3, .int (nI (cnA X d e f))), (0, .ref (ad (35, 0, 0, 0))), (1, .int (nI d)), (2, .int (nI e))]) (fun _ => []) (fun f : Nat => f ≤ 4) (fun f => 4 - f) (fun f hi5 ih5 H locs ls h hl => ?_) 0 (Nat.zero_le _) (h.eq (congrArg (lay tc ad gm dz) rfl)) (lv_sub hl [0, 1, 2, 3, 4] rfl) rfl
  have h : Sx D (wA ad Ks s.heap.size) ad Ks (lay tc ad gm dz (LL X)) s H locs := h
  have hl : lv_has ls 5 [(4, .int (nI f)), (3, .int (nI (cnA X d e f))), (0, .ref (ad (35, 0, 0, 0))), (1, .int (nI d)), (2, .int (nI e))] := hl
  refine lv_iload hx hb dL_all_5 (lv_at hl 0 rfl) ?_
  refine lv_iconst (v := nI 4) hx hb dL_all_7 (by decide) ?_
  refine n_icmp_ge (tgt := 32) hx hb (by omega) (by omega) dL_all_8 (by decide) (fun c_8 => ?_) (fun c_8 => ?_)
  · skip
    obtain rfl : f = 4 := by omega
    refine lv_iload_n hx hb dL_all_32 rfl (lv_at hl 1 rfl) ?_
    exact x_iret X h hr rfl rfl (fun _ _ => rfl) dL_all_33
  · skip
    refine lv_iload_n hx hb dL_all_11 rfl (lv_at hl 1 rfl) ?_
    refine lv_aload_n hx hb dL_all_12 rfl (lv_at hl 2 rfl) ?_
    refine lv_iload_n hx hb dL_all_13 rfl (lv_at hl 3 rfl) ?_
    refine lv_iload_n hx hb dL_all_14 rfl (lv_at hl 4 rfl) ?_
    refine lv_iload hx hb dL_all_15 (lv_at hl 0 rfl) ?_
    refine x_doneI X h (x_runS X h (m_L_at (LL X) d e f _) F_L_at q744 q745 rfl (by decide) (by decide) ⟨Nat.le_refl _, Nat.le_refl _⟩ hl.1 (Nat.le_of_ble_eq_true rfl) dL_all_17 rfl) (fun H locs h => ?_)
    refine z_lald X h pkB (fun _ => rfl) (by decide) (hL (35, 0, 0, 0) ⟨by decide, rfl, rfl, rfl⟩) (by omega) (v := pk (rw6 (X (35, 0, 0, 0)) (24 * (10 * d + e) + 6 * f))) (pkB_at (by omega) (by omega)) dL_all_20 ?_
    refine x_doneI X h (x_runS X h (m_L_count (LL X) (rw6 (X (35, 0, 0, 0)) (24 * (10 * d + e) + 6 * f)) (fun _ _ => hB.1 _) _) F_L_count q757 q758 rfl (by decide) (by decide) ⟨Nat.le_refl _, Nat.le_refl _⟩ hl.1 (Nat.le_of_ble_eq_true rfl) dL_all_21 rfl) (fun H locs h => ?_)
    refine n_iadd hx hb dL_all_24 ?_
    rw [show nI ((cnA X d e f) + (ctv (rw6 (X (35, 0, 0, 0)) (24 * (10 * d + e) + 6 * f)))) = nI (cnA X d e (f + 1)) from rfl]
    refine lv_istore_n (lv' := [(3, .int (nI (cnA X d e (f + 1)))), (4, .int (nI f)), (0, .ref (ad (35, 0, 0, 0))), (1, .int (nI d)), (2, .int (nI e))]) hx hb dL_all_25 rfl hl (by decide) rfl (fun ls hl => ?_)
    refine n_iinc (j := f) (n := 1) (lv' := [(4, .int (nI (f + 1))), (3, .int (nI (cnA X d e (f + 1)))), (0, .ref (ad (35, 0, 0, 0))), (1, .int (nI d)), (2, .int (nI e))]) hx hb dL_all_26 hl (k := 1) rfl (by decide) (by decide) rfl (fun ls hl => ?_)
    refine lv_goto (tgt := 5) hx hb dL_all_29 (by decide) ?_
    exact ih5 (f + 1) (by omega) (by omega) H locs ls (h.eq (congrArg (lay tc ad gm dz) rfl)) (lv_sub hl [0, 1, 2, 3, 4] rfl)

set_option maxHeartbeats 4000000 in
set_option maxRecDepth 100000 in
theorem m_L_may {l : Launch} {D : va_G} {tc : TC} {dz : Nat} {ad : KN → Nat} {Ks : List KN} {gm : GM} (X : Mem) (hL : LV gm Ks) (d e : Nat) (hd : d < 6) (he : e < 2) (f : Nat) (hf : f < 4) : MI l yL_may cL_may 4 (Option.some ClassFile.FieldType.boolean) 0 D tc dz ad Ks (lay tc ad gm dz (LL X)) [.ref (ad (44, 0, 0, 0)), .int (nI d), .int (nI e), .int (nI f)] (bI (mayB X d e f)) (lay tc ad gm dz (LL X)) := by
  intro sz
  refine x_ofW (by decide +kernel) (Nat.le_of_ble_eq_true rfl) (fun pp ee s mm bel meth cd ls X hr hin hz h hl => ?_)
  subst hz
  obtain ⟨hx, hb, hmaxL, hown, hts⟩ := id X.1
  have hl : lv_has ls 4 [(0, .ref (ad (44, 0, 0, 0))), (1, .int (nI d)), (2, .int (nI e)), (3, .int (nI f))] := hl
  refine lv_aload_n hx hb dL_may_0 rfl (lv_at hl 0 rfl) ?_
  refine lv_iconst (v := nI 4) hx hb dL_may_1 (by decide) ?_
  refine lv_iload_n hx hb dL_may_2 rfl (lv_at hl 2 rfl) ?_
  refine n_imul hx hb dL_may_3 ?_
  refine y_ald X h (fun _ => rfl) (by decide) (hL (44, 0, 0, 0) ⟨by decide, rfl, rfl, rfl⟩) (by omega) (v := LL X (44, 0, 0, 0) (4 * e)) rfl dL_may_4 ?_
  refine lv_iload_n hx hb dL_may_5 rfl (lv_at hl 1 rfl) ?_
  refine lv_iconst (v := nI 2) hx hb dL_may_6 (by decide) ?_
  refine n_idiv hx hb (by omega) (by omega) (by omega) dL_may_7 ?_
  refine lv_icmp_eq (tgt := 30) hx hb dL_may_8 (by decide) (fun c_8 => ?_) (fun c_8 => ?_)
  · skip
    have hq : mayB X d e f = true := by unfold mayB; rw [if_pos (wc_ow.symm.trans c_8)]
    refine lv_iconst (v := nI 1) hx hb dL_may_30 (by decide) ?_
    refine lv_goto (tgt := 35) hx hb dL_may_31 (by decide) ?_
    rw [bI_t hq]
    exact x_iret X h hr (bI_nar _) rfl (fun _ _ => rfl) dL_may_35
  · skip
    refine lv_aload_n hx hb dL_may_11 rfl (lv_at hl 0 rfl) ?_
    refine lv_iconst (v := nI 4) hx hb dL_may_12 (by decide) ?_
    refine lv_iload_n hx hb dL_may_13 rfl (lv_at hl 2 rfl) ?_
    refine n_imul hx hb dL_may_14 ?_
    refine lv_iconst (v := nI 1) hx hb dL_may_15 (by decide) ?_
    refine n_iadd hx hb dL_may_16 ?_
    refine lv_iload_n hx hb dL_may_17 rfl (lv_at hl 1 rfl) ?_
    refine lv_iconst (v := nI 2) hx hb dL_may_18 (by decide) ?_
    refine n_idiv hx hb (by omega) (by omega) (by omega) dL_may_19 ?_
    refine n_iadd hx hb dL_may_20 ?_
    refine y_ald X h (fun _ => rfl) (by decide) (hL (44, 0, 0, 0) ⟨by decide, rfl, rfl, rfl⟩) (by omega) (v := LL X (44, 0, 0, 0) (4 * e + 1 + d / 2)) rfl dL_may_21 ?_
    refine lv_iload_n hx hb dL_may_22 rfl (lv_at hl 3 rfl) ?_
    refine lv_ishr hx hb dL_may_23 ?_
    refine lv_iconst (v := nI 1) hx hb dL_may_24 (by decide) ?_
    refine lv_iand hx hb dL_may_25 ?_
    refine lv_iconst (v := nI 1) hx hb dL_may_26 (by decide) ?_
    refine lv_icmp_ne (tgt := 34) hx hb dL_may_27 (by decide) (fun c_27 => ?_) (fun c_27 => ?_)
    · skip
      have hq : mayB X d e f = false := by unfold mayB; rw [if_neg (fun z => c_8 (wc_ow.trans z)), ← wc_sh (by omega)]; exact bit_f c_27
      refine lv_iconst (v := nI 0) hx hb dL_may_34 (by decide) ?_
      rw [bI_f hq]
      exact x_iret X h hr (bI_nar _) rfl (fun _ _ => rfl) dL_may_35
    · skip
      have hq : mayB X d e f = true := by unfold mayB; rw [if_neg (fun z => c_8 (wc_ow.trans z)), ← wc_sh (by omega)]; exact bit_t (Decidable.byContradiction c_27)
      refine lv_iconst (v := nI 1) hx hb dL_may_30 (by decide) ?_
      refine lv_goto (tgt := 35) hx hb dL_may_31 (by decide) ?_
      rw [bI_t hq]
      exact x_iret X h hr (bI_nar _) rfl (fun _ _ => rfl) dL_may_35

set_option maxHeartbeats 4000000 in
set_option maxRecDepth 100000 in
theorem m_L_isCovered {l : Launch} {D : va_G} {tc : TC} {dz : Nat} {ad : KN → Nat} {Ks : List KN} {gm : GM} (X : Mem) (hL : LV gm Ks) (hB : BR X) (n m t : Nat) (hN : NR X n m t) (hn2 : n ≤ 2) (hm10 : m ≤ 10) (ht9 : t ≤ 2000) (d e : Nat) (hd : d < 6) (he : e < 2) : MI l yL_isCovered cL_isCovered 11 (Option.some ClassFile.FieldType.boolean) 2 D tc dz ad Ks (lay tc ad gm dz (LL X)) [.ref (ad (35, 0, 0, 0)), .ref (ad (41, 0, 0, 0)), .ref (ad (42, 0, 0, 0)), .ref (ad (40, 0, 0, 0)), .ref (ad (45, 0, 0, 0)), .int (nI d), .int (nI e)] (bI (cvt X d e m)) (lay tc ad gm dz (LL X)) := by
  intro sz
  have hg0 : LL X (45, 0, 0, 0) 0 = nI n := gc_0.trans hN.1
  have hg1 : LL X (45, 0, 0, 0) 1 = nI t := gc_1.trans hN.2.1
  have hg2 : LL X (45, 0, 0, 0) 2 = nI m := gc_2.trans hN.2.2
  refine x_ofW (by decide +kernel) (Nat.le_of_ble_eq_true rfl) (fun pp ee s mm bel meth cd ls X hr hin hz h hl => ?_)
  subst hz
  obtain ⟨hx, hb, hmaxL, hown, hts⟩ := id X.1
  have hl : lv_has ls 11 [(0, .ref (ad (35, 0, 0, 0))), (1, .ref (ad (41, 0, 0, 0))), (2, .ref (ad (42, 0, 0, 0))), (3, .ref (ad (40, 0, 0, 0))), (4, .ref (ad (45, 0, 0, 0))), (5, .int (nI d)), (6, .int (nI e))] := hl
  refine lv_iconst (v := nI 0) hx hb dL_isCovered_0 (by decide) ?_
  refine lv_istore (lv' := [(7, .int (nI 0)), (0, .ref (ad (35, 0, 0, 0))), (1, .ref (ad (41, 0, 0, 0))), (2, .ref (ad (42, 0, 0, 0))), (3, .ref (ad (40, 0, 0, 0))), (4, .ref (ad (45, 0, 0, 0))), (5, .int (nI d)), (6, .int (nI e))]) hx hb dL_isCovered_1 hl (by decide) rfl (fun ls hl => ?_)
  refine lv_iconst (v := nI 0) hx hb dL_isCovered_3 (by decide) ?_
  refine lv_istore (lv' := [(8, .int (nI 0)), (7, .int (nI 0)), (0, .ref (ad (35, 0, 0, 0))), (1, .ref (ad (41, 0, 0, 0))), (2, .ref (ad (42, 0, 0, 0))), (3, .ref (ad (40, 0, 0, 0))), (4, .ref (ad (45, 0, 0, 0))), (5, .int (nI d)), (6, .int (nI e))]) hx hb dL_isCovered_4 hl (by decide) rfl (fun ls hl => ?_)
  refine y_loop (D := D) (A := wA ad Ks s.heap.size) (ad := ad) (Ks := Ks) (nL := 11) (fun k : Nat => lay tc ad gm dz (LL X)) (fun k => [(8, .int (nI k)), (7, .int (bI (anyB (cvQ X d e) k))), (0, .ref (ad (35, 0, 0, 0))), (1, .ref (ad (41, 0, 0, 0))), (2, .ref (ad (42, 0, 0, 0))), (3, .ref (ad (40, 0, 0, 0))), (4, .ref (ad (45, 0, 0, 0))), (5, .int (nI d)), (6, .int (nI e))]) (fun _ => []) (fun k : Nat => k ≤ m) (fun k => m - k) (fun k hi6 ih6 H locs ls h hl => ?_) 0 (Nat.zero_le _) (h.eq (congrArg (lay tc ad gm dz) rfl)) (lv_sub hl [0, 1, 2, 3, 4, 5, 6, 7, 8] rfl) rfl
  have h : Sx D (wA ad Ks s.heap.size) ad Ks (lay tc ad gm dz (LL X)) s H locs := h
  have hl : lv_has ls 11 [(8, .int (nI k)), (7, .int (bI (anyB (cvQ X d e) k))), (0, .ref (ad (35, 0, 0, 0))), (1, .ref (ad (41, 0, 0, 0))), (2, .ref (ad (42, 0, 0, 0))), (3, .ref (ad (40, 0, 0, 0))), (4, .ref (ad (45, 0, 0, 0))), (5, .int (nI d)), (6, .int (nI e))] := hl
  refine lv_iload hx hb dL_isCovered_6 (lv_at hl 0 rfl) ?_
  refine lv_aload hx hb dL_isCovered_8 (lv_at hl 6 rfl) ?_
  refine lv_iconst (v := nI 2) hx hb dL_isCovered_10 (by decide) ?_
  refine y_ald X h (fun _ => rfl) (by decide) (hL (45, 0, 0, 0) ⟨by decide, rfl, rfl, rfl⟩) (by omega) (v := nI m) hg2 dL_isCovered_11 ?_
  refine n_icmp_ge (tgt := 120) hx hb (by omega) (by omega) dL_isCovered_12 (by decide) (fun c_12 => ?_) (fun c_12 => ?_)
  · skip
    obtain rfl : k = m := by omega
    refine lv_iload hx hb dL_isCovered_120 (lv_at hl 1 rfl) ?_
    exact x_iret X h hr (bI_nar _) rfl (fun _ _ => rfl) dL_isCovered_122
  · skip
    refine lv_aload_n hx hb dL_isCovered_15 rfl (lv_at hl 5 rfl) ?_
    refine lv_iload hx hb dL_isCovered_16 (lv_at hl 0 rfl) ?_
    refine y_ald X h (fun _ => rfl) (by decide) (hL (40, 0, 0, 0) ⟨by decide, rfl, rfl, rfl⟩) (by omega) (v := X (40, 0, 0, 0) k) rfl dL_isCovered_18 ?_
    refine lv_iload hx hb dL_isCovered_19 (lv_at hl 8 rfl) ?_
    refine lv_icmp_ne (tgt := 41) hx hb dL_isCovered_21 (by decide) (fun c_21 => ?_) (fun c_21 => ?_)
    · skip
      have hq : (mo X e k && (kmk X d k && allB (fun f => cvr (rw6 (X (41, 0, 0, 0)) (24 * k + 6 * f)) (rw6 (X (35, 0, 0, 0)) (24 * (10 * d + e) + 6 * f))) 0)) = false := by rw [mo_f c_21, Bool.false_and]
      refine lv_iconst (v := nI 0) hx hb dL_isCovered_41 (by decide) ?_
      rw [bI_f hq]
      refine lv_istore (lv' := [(9, .int (bI (mo X e k && (kmk X d k && allB (fun f => cvr (rw6 (X (41, 0, 0, 0)) (24 * k + 6 * f)) (rw6 (X (35, 0, 0, 0)) (24 * (10 * d + e) + 6 * f))) 0)))), (8, .int (nI k)), (7, .int (bI (anyB (cvQ X d e) k))), (0, .ref (ad (35, 0, 0, 0))), (1, .ref (ad (41, 0, 0, 0))), (2, .ref (ad (42, 0, 0, 0))), (3, .ref (ad (40, 0, 0, 0))), (4, .ref (ad (45, 0, 0, 0))), (5, .int (nI d)), (6, .int (nI e))]) hx hb dL_isCovered_42 hl (by decide) rfl (fun ls hl => ?_)
      refine lv_iconst (v := nI 0) hx hb dL_isCovered_44 (by decide) ?_
      refine lv_istore (lv' := [(10, .int (nI 0)), (9, .int (bI (mo X e k && (kmk X d k && allB (fun f => cvr (rw6 (X (41, 0, 0, 0)) (24 * k + 6 * f)) (rw6 (X (35, 0, 0, 0)) (24 * (10 * d + e) + 6 * f))) 0)))), (8, .int (nI k)), (7, .int (bI (anyB (cvQ X d e) k))), (0, .ref (ad (35, 0, 0, 0))), (1, .ref (ad (41, 0, 0, 0))), (2, .ref (ad (42, 0, 0, 0))), (3, .ref (ad (40, 0, 0, 0))), (4, .ref (ad (45, 0, 0, 0))), (5, .int (nI d)), (6, .int (nI e))]) hx hb dL_isCovered_45 hl (by decide) rfl (fun ls hl => ?_)
      refine y_loop (D := D) (A := wA ad Ks s.heap.size) (ad := ad) (Ks := Ks) (nL := 11) (fun f : Nat => lay tc ad gm dz (LL X)) (fun f => [(10, .int (nI f)), (9, .int (bI (mo X e k && (kmk X d k && allB (fun f => cvr (rw6 (X (41, 0, 0, 0)) (24 * k + 6 * f)) (rw6 (X (35, 0, 0, 0)) (24 * (10 * d + e) + 6 * f))) f)))), (8, .int (nI k)), (7, .int (bI (anyB (cvQ X d e) k))), (0, .ref (ad (35, 0, 0, 0))), (1, .ref (ad (41, 0, 0, 0))), (2, .ref (ad (42, 0, 0, 0))), (3, .ref (ad (40, 0, 0, 0))), (4, .ref (ad (45, 0, 0, 0))), (5, .int (nI d)), (6, .int (nI e))]) (fun _ => []) (fun f : Nat => f ≤ 4) (fun f => 4 - f) (fun f hi47 ih47 H locs ls h hl => ?_) 0 (Nat.zero_le _) (h.eq (congrArg (lay tc ad gm dz) rfl)) (lv_sub hl [0, 1, 2, 3, 4, 5, 6, 7, 8, 9, 10] rfl) rfl
      have h : Sx D (wA ad Ks s.heap.size) ad Ks (lay tc ad gm dz (LL X)) s H locs := h
      have hl : lv_has ls 11 [(10, .int (nI f)), (9, .int (bI (mo X e k && (kmk X d k && allB (fun f => cvr (rw6 (X (41, 0, 0, 0)) (24 * k + 6 * f)) (rw6 (X (35, 0, 0, 0)) (24 * (10 * d + e) + 6 * f))) f)))), (8, .int (nI k)), (7, .int (bI (anyB (cvQ X d e) k))), (0, .ref (ad (35, 0, 0, 0))), (1, .ref (ad (41, 0, 0, 0))), (2, .ref (ad (42, 0, 0, 0))), (3, .ref (ad (40, 0, 0, 0))), (4, .ref (ad (45, 0, 0, 0))), (5, .int (nI d)), (6, .int (nI e))] := hl
      refine lv_iload hx hb dL_isCovered_47 (lv_at hl 0 rfl) ?_
      refine lv_iconst (v := nI 4) hx hb dL_isCovered_49 (by decide) ?_
      refine n_icmp_ge (tgt := 97) hx hb (by omega) (by omega) dL_isCovered_50 (by decide) (fun c_50 => ?_) (fun c_50 => ?_)
      · skip
        obtain rfl : f = 4 := by omega
        refine lv_iload hx hb dL_isCovered_97 (lv_at hl 3 rfl) ?_
        refine b_if_ne (tgt := 107) hx hb dL_isCovered_99 (by decide) (fun c_99 => ?_) (fun c_99 => ?_)
        · skip
          have hq : anyB (cvQ X d e) (k + 1) = true := by rw [anyB, c_99, Bool.true_or]
          refine lv_iconst (v := nI 1) hx hb dL_isCovered_107 (by decide) ?_
          refine lv_goto (tgt := 112) hx hb dL_isCovered_108 (by decide) ?_
          rw [bI_t hq]
          refine lv_istore (lv' := [(7, .int (bI (anyB (cvQ X d e) (k + 1)))), (10, .int (nI f)), (9, .int (bI (mo X e k && (kmk X d k && allB (fun f => cvr (rw6 (X (41, 0, 0, 0)) (24 * k + 6 * f)) (rw6 (X (35, 0, 0, 0)) (24 * (10 * d + e) + 6 * f))) f)))), (8, .int (nI k)), (0, .ref (ad (35, 0, 0, 0))), (1, .ref (ad (41, 0, 0, 0))), (2, .ref (ad (42, 0, 0, 0))), (3, .ref (ad (40, 0, 0, 0))), (4, .ref (ad (45, 0, 0, 0))), (5, .int (nI d)), (6, .int (nI e))]) hx hb dL_isCovered_112 hl (by decide) rfl (fun ls hl => ?_)
          refine n_iinc (j := k) (n := 1) (lv' := [(8, .int (nI (k + 1))), (7, .int (bI (anyB (cvQ X d e) (k + 1)))), (10, .int (nI f)), (9, .int (bI (mo X e k && (kmk X d k && allB (fun f => cvr (rw6 (X (41, 0, 0, 0)) (24 * k + 6 * f)) (rw6 (X (35, 0, 0, 0)) (24 * (10 * d + e) + 6 * f))) f)))), (0, .ref (ad (35, 0, 0, 0))), (1, .ref (ad (41, 0, 0, 0))), (2, .ref (ad (42, 0, 0, 0))), (3, .ref (ad (40, 0, 0, 0))), (4, .ref (ad (45, 0, 0, 0))), (5, .int (nI d)), (6, .int (nI e))]) hx hb dL_isCovered_114 hl (k := 3) rfl (by decide) (by decide) rfl (fun ls hl => ?_)
          refine lv_goto (tgt := 6) hx hb dL_isCovered_117 (by decide) ?_
          exact ih6 (k + 1) (by omega) (by omega) H locs ls (h.eq (congrArg (lay tc ad gm dz) rfl)) (lv_sub hl [0, 1, 4, 5, 6, 7, 8, 9, 10] rfl)
        · skip
          refine lv_iload hx hb dL_isCovered_102 (lv_at hl 1 rfl) ?_
          refine b_if_eq (tgt := 111) hx hb dL_isCovered_104 (by decide) (fun c_104 => ?_) (fun c_104 => ?_)
          · skip
            have hq : anyB (cvQ X d e) (k + 1) = false := by rw [anyB, c_99, Bool.false_or]; exact (congrArg (mo X e k && ·) (congrArg (kmk X d k && ·) (cvm_f X k d e))).trans c_104
            refine lv_iconst (v := nI 0) hx hb dL_isCovered_111 (by decide) ?_
            rw [bI_f hq]
            refine lv_istore (lv' := [(7, .int (bI (anyB (cvQ X d e) (k + 1)))), (10, .int (nI f)), (9, .int (bI (mo X e k && (kmk X d k && allB (fun f => cvr (rw6 (X (41, 0, 0, 0)) (24 * k + 6 * f)) (rw6 (X (35, 0, 0, 0)) (24 * (10 * d + e) + 6 * f))) f)))), (8, .int (nI k)), (0, .ref (ad (35, 0, 0, 0))), (1, .ref (ad (41, 0, 0, 0))), (2, .ref (ad (42, 0, 0, 0))), (3, .ref (ad (40, 0, 0, 0))), (4, .ref (ad (45, 0, 0, 0))), (5, .int (nI d)), (6, .int (nI e))]) hx hb dL_isCovered_112 hl (by decide) rfl (fun ls hl => ?_)
            refine n_iinc (j := k) (n := 1) (lv' := [(8, .int (nI (k + 1))), (7, .int (bI (anyB (cvQ X d e) (k + 1)))), (10, .int (nI f)), (9, .int (bI (mo X e k && (kmk X d k && allB (fun f => cvr (rw6 (X (41, 0, 0, 0)) (24 * k + 6 * f)) (rw6 (X (35, 0, 0, 0)) (24 * (10 * d + e) + 6 * f))) f)))), (0, .ref (ad (35, 0, 0, 0))), (1, .ref (ad (41, 0, 0, 0))), (2, .ref (ad (42, 0, 0, 0))), (3, .ref (ad (40, 0, 0, 0))), (4, .ref (ad (45, 0, 0, 0))), (5, .int (nI d)), (6, .int (nI e))]) hx hb dL_isCovered_114 hl (k := 3) rfl (by decide) (by decide) rfl (fun ls hl => ?_)
            refine lv_goto (tgt := 6) hx hb dL_isCovered_117 (by decide) ?_
            exact ih6 (k + 1) (by omega) (by omega) H locs ls (h.eq (congrArg (lay tc ad gm dz) rfl)) (lv_sub hl [0, 1, 4, 5, 6, 7, 8, 9, 10] rfl)
          · skip
            have hq : anyB (cvQ X d e) (k + 1) = true := by rw [anyB, c_99, Bool.false_or]; exact (congrArg (mo X e k && ·) (congrArg (kmk X d k && ·) (cvm_f X k d e))).trans c_104
            refine lv_iconst (v := nI 1) hx hb dL_isCovered_107 (by decide) ?_
            refine lv_goto (tgt := 112) hx hb dL_isCovered_108 (by decide) ?_
            rw [bI_t hq]
            refine lv_istore (lv' := [(7, .int (bI (anyB (cvQ X d e) (k + 1)))), (10, .int (nI f)), (9, .int (bI (mo X e k && (kmk X d k && allB (fun f => cvr (rw6 (X (41, 0, 0, 0)) (24 * k + 6 * f)) (rw6 (X (35, 0, 0, 0)) (24 * (10 * d + e) + 6 * f))) f)))), (8, .int (nI k)), (0, .ref (ad (35, 0, 0, 0))), (1, .ref (ad (41, 0, 0, 0))), (2, .ref (ad (42, 0, 0, 0))), (3, .ref (ad (40, 0, 0, 0))), (4, .ref (ad (45, 0, 0, 0))), (5, .int (nI d)), (6, .int (nI e))]) hx hb dL_isCovered_112 hl (by decide) rfl (fun ls hl => ?_)
            refine n_iinc (j := k) (n := 1) (lv' := [(8, .int (nI (k + 1))), (7, .int (bI (anyB (cvQ X d e) (k + 1)))), (10, .int (nI f)), (9, .int (bI (mo X e k && (kmk X d k && allB (fun f => cvr (rw6 (X (41, 0, 0, 0)) (24 * k + 6 * f)) (rw6 (X (35, 0, 0, 0)) (24 * (10 * d + e) + 6 * f))) f)))), (0, .ref (ad (35, 0, 0, 0))), (1, .ref (ad (41, 0, 0, 0))), (2, .ref (ad (42, 0, 0, 0))), (3, .ref (ad (40, 0, 0, 0))), (4, .ref (ad (45, 0, 0, 0))), (5, .int (nI d)), (6, .int (nI e))]) hx hb dL_isCovered_114 hl (k := 3) rfl (by decide) (by decide) rfl (fun ls hl => ?_)
            refine lv_goto (tgt := 6) hx hb dL_isCovered_117 (by decide) ?_
            exact ih6 (k + 1) (by omega) (by omega) H locs ls (h.eq (congrArg (lay tc ad gm dz) rfl)) (lv_sub hl [0, 1, 4, 5, 6, 7, 8, 9, 10] rfl)
      · skip
        refine lv_iload hx hb dL_isCovered_53 (lv_at hl 1 rfl) ?_
        refine b_if_eq (tgt := 88) hx hb dL_isCovered_55 (by decide) (fun c_55 => ?_) (fun c_55 => ?_)
        · skip
          have hq : (mo X e k && (kmk X d k && allB (fun f => cvr (rw6 (X (41, 0, 0, 0)) (24 * k + 6 * f)) (rw6 (X (35, 0, 0, 0)) (24 * (10 * d + e) + 6 * f))) (f + 1))) = false := by rw [allB, ← Bool.and_assoc, ← Bool.and_assoc, Bool.and_assoc (mo X e k), c_55, Bool.false_and]
          refine lv_iconst (v := nI 0) hx hb dL_isCovered_88 (by decide) ?_
          rw [bI_f hq]
          refine lv_istore (lv' := [(9, .int (bI (mo X e k && (kmk X d k && allB (fun f => cvr (rw6 (X (41, 0, 0, 0)) (24 * k + 6 * f)) (rw6 (X (35, 0, 0, 0)) (24 * (10 * d + e) + 6 * f))) (f + 1))))), (10, .int (nI f)), (8, .int (nI k)), (7, .int (bI (anyB (cvQ X d e) k))), (0, .ref (ad (35, 0, 0, 0))), (1, .ref (ad (41, 0, 0, 0))), (2, .ref (ad (42, 0, 0, 0))), (3, .ref (ad (40, 0, 0, 0))), (4, .ref (ad (45, 0, 0, 0))), (5, .int (nI d)), (6, .int (nI e))]) hx hb dL_isCovered_89 hl (by decide) rfl (fun ls hl => ?_)
          refine n_iinc (j := f) (n := 1) (lv' := [(10, .int (nI (f + 1))), (9, .int (bI (mo X e k && (kmk X d k && allB (fun f => cvr (rw6 (X (41, 0, 0, 0)) (24 * k + 6 * f)) (rw6 (X (35, 0, 0, 0)) (24 * (10 * d + e) + 6 * f))) (f + 1))))), (8, .int (nI k)), (7, .int (bI (anyB (cvQ X d e) k))), (0, .ref (ad (35, 0, 0, 0))), (1, .ref (ad (41, 0, 0, 0))), (2, .ref (ad (42, 0, 0, 0))), (3, .ref (ad (40, 0, 0, 0))), (4, .ref (ad (45, 0, 0, 0))), (5, .int (nI d)), (6, .int (nI e))]) hx hb dL_isCovered_91 hl (k := 1) rfl (by decide) (by decide) rfl (fun ls hl => ?_)
          refine lv_goto (tgt := 47) hx hb dL_isCovered_94 (by decide) ?_
          exact ih47 (f + 1) (by omega) (by omega) H locs ls (h.eq (congrArg (lay tc ad gm dz) rfl)) (lv_sub hl [0, 1, 2, 3, 4, 5, 6, 7, 8, 9, 10] rfl)
        · skip
          refine lv_aload_n hx hb dL_isCovered_58 rfl (lv_at hl 5 rfl) ?_
          refine lv_iconst (v := nI 4) hx hb dL_isCovered_59 (by decide) ?_
          refine lv_iload hx hb dL_isCovered_60 (lv_at hl 2 rfl) ?_
          refine n_imul hx hb dL_isCovered_62 ?_
          refine lv_iload hx hb dL_isCovered_63 (lv_at hl 0 rfl) ?_
          refine n_iadd hx hb dL_isCovered_65 ?_
          refine z_lald X h pkA (fun _ => rfl) (by decide) (hL (41, 0, 0, 0) ⟨by decide, rfl, rfl, rfl⟩) (by omega) (v := pk (rw6 (X (41, 0, 0, 0)) (24 * k + 6 * f))) pkA_at dL_isCovered_66 ?_
          refine lv_aload_n hx hb dL_isCovered_67 rfl (lv_at hl 4 rfl) ?_
          refine lv_iload hx hb dL_isCovered_68 (lv_at hl 9 rfl) ?_
          refine lv_iload hx hb dL_isCovered_70 (lv_at hl 10 rfl) ?_
          refine lv_iload hx hb dL_isCovered_72 (lv_at hl 0 rfl) ?_
          refine x_doneI X h (x_runS X h (m_L_at (LL X) d e f _) F_L_at q744 q745 rfl (by decide) (by decide) ⟨Nat.le_refl _, Nat.le_refl _⟩ hl.1 (Nat.le_of_ble_eq_true rfl) dL_isCovered_74 rfl) (fun H locs h => ?_)
          refine z_lald X h pkB (fun _ => rfl) (by decide) (hL (35, 0, 0, 0) ⟨by decide, rfl, rfl, rfl⟩) (by omega) (v := pk (rw6 (X (35, 0, 0, 0)) (24 * (10 * d + e) + 6 * f))) (pkB_at (by omega) (by omega)) dL_isCovered_77 ?_
          refine x_doneI X h (x_runS X h (m_L_covers (LL X) (rw6 (X (41, 0, 0, 0)) (24 * k + 6 * f)) (rw6 (X (35, 0, 0, 0)) (24 * (10 * d + e) + 6 * f)) (fun _ _ => hB.2.2.2 _) (fun _ _ => hB.1 _) _) F_L_covers q747 q748 rfl (by decide) (by decide) ⟨Nat.le_refl _, Nat.le_refl _⟩ hl.1 (Nat.le_of_ble_eq_true rfl) dL_isCovered_78 rfl) (fun H locs h => ?_)
          refine b_if_eq (tgt := 88) hx hb dL_isCovered_81 (by decide) (fun c_81 => ?_) (fun c_81 => ?_)
          · skip
            have hq : (mo X e k && (kmk X d k && allB (fun f => cvr (rw6 (X (41, 0, 0, 0)) (24 * k + 6 * f)) (rw6 (X (35, 0, 0, 0)) (24 * (10 * d + e) + 6 * f))) (f + 1))) = false := by rw [allB_n c_81, Bool.and_false, Bool.and_false, Bool.and_false]
            refine lv_iconst (v := nI 0) hx hb dL_isCovered_88 (by decide) ?_
            rw [bI_f hq]
            refine lv_istore (lv' := [(9, .int (bI (mo X e k && (kmk X d k && allB (fun f => cvr (rw6 (X (41, 0, 0, 0)) (24 * k + 6 * f)) (rw6 (X (35, 0, 0, 0)) (24 * (10 * d + e) + 6 * f))) (f + 1))))), (10, .int (nI f)), (8, .int (nI k)), (7, .int (bI (anyB (cvQ X d e) k))), (0, .ref (ad (35, 0, 0, 0))), (1, .ref (ad (41, 0, 0, 0))), (2, .ref (ad (42, 0, 0, 0))), (3, .ref (ad (40, 0, 0, 0))), (4, .ref (ad (45, 0, 0, 0))), (5, .int (nI d)), (6, .int (nI e))]) hx hb dL_isCovered_89 hl (by decide) rfl (fun ls hl => ?_)
            refine n_iinc (j := f) (n := 1) (lv' := [(10, .int (nI (f + 1))), (9, .int (bI (mo X e k && (kmk X d k && allB (fun f => cvr (rw6 (X (41, 0, 0, 0)) (24 * k + 6 * f)) (rw6 (X (35, 0, 0, 0)) (24 * (10 * d + e) + 6 * f))) (f + 1))))), (8, .int (nI k)), (7, .int (bI (anyB (cvQ X d e) k))), (0, .ref (ad (35, 0, 0, 0))), (1, .ref (ad (41, 0, 0, 0))), (2, .ref (ad (42, 0, 0, 0))), (3, .ref (ad (40, 0, 0, 0))), (4, .ref (ad (45, 0, 0, 0))), (5, .int (nI d)), (6, .int (nI e))]) hx hb dL_isCovered_91 hl (k := 1) rfl (by decide) (by decide) rfl (fun ls hl => ?_)
            refine lv_goto (tgt := 47) hx hb dL_isCovered_94 (by decide) ?_
            exact ih47 (f + 1) (by omega) (by omega) H locs ls (h.eq (congrArg (lay tc ad gm dz) rfl)) (lv_sub hl [0, 1, 2, 3, 4, 5, 6, 7, 8, 9, 10] rfl)
          · skip
            have hq : (mo X e k && (kmk X d k && allB (fun f => cvr (rw6 (X (41, 0, 0, 0)) (24 * k + 6 * f)) (rw6 (X (35, 0, 0, 0)) (24 * (10 * d + e) + 6 * f))) (f + 1))) = true := by rw [allB_n c_81, Bool.and_true]; exact c_55
            refine lv_iconst (v := nI 1) hx hb dL_isCovered_84 (by decide) ?_
            refine lv_goto (tgt := 89) hx hb dL_isCovered_85 (by decide) ?_
            rw [bI_t hq]
            refine lv_istore (lv' := [(9, .int (bI (mo X e k && (kmk X d k && allB (fun f => cvr (rw6 (X (41, 0, 0, 0)) (24 * k + 6 * f)) (rw6 (X (35, 0, 0, 0)) (24 * (10 * d + e) + 6 * f))) (f + 1))))), (10, .int (nI f)), (8, .int (nI k)), (7, .int (bI (anyB (cvQ X d e) k))), (0, .ref (ad (35, 0, 0, 0))), (1, .ref (ad (41, 0, 0, 0))), (2, .ref (ad (42, 0, 0, 0))), (3, .ref (ad (40, 0, 0, 0))), (4, .ref (ad (45, 0, 0, 0))), (5, .int (nI d)), (6, .int (nI e))]) hx hb dL_isCovered_89 hl (by decide) rfl (fun ls hl => ?_)
            refine n_iinc (j := f) (n := 1) (lv' := [(10, .int (nI (f + 1))), (9, .int (bI (mo X e k && (kmk X d k && allB (fun f => cvr (rw6 (X (41, 0, 0, 0)) (24 * k + 6 * f)) (rw6 (X (35, 0, 0, 0)) (24 * (10 * d + e) + 6 * f))) (f + 1))))), (8, .int (nI k)), (7, .int (bI (anyB (cvQ X d e) k))), (0, .ref (ad (35, 0, 0, 0))), (1, .ref (ad (41, 0, 0, 0))), (2, .ref (ad (42, 0, 0, 0))), (3, .ref (ad (40, 0, 0, 0))), (4, .ref (ad (45, 0, 0, 0))), (5, .int (nI d)), (6, .int (nI e))]) hx hb dL_isCovered_91 hl (k := 1) rfl (by decide) (by decide) rfl (fun ls hl => ?_)
            refine lv_goto (tgt := 47) hx hb dL_isCovered_94 (by decide) ?_
            exact ih47 (f + 1) (by omega) (by omega) H locs ls (h.eq (congrArg (lay tc ad gm dz) rfl)) (lv_sub hl [0, 1, 2, 3, 4, 5, 6, 7, 8, 9, 10] rfl)
    · skip
      refine lv_aload_n hx hb dL_isCovered_24 rfl (lv_at hl 4 rfl) ?_
      refine lv_bipush (v := nI 6) hx hb dL_isCovered_25 (by decide) ?_
      refine lv_iload hx hb dL_isCovered_27 (lv_at hl 0 rfl) ?_
      refine n_imul hx hb dL_isCovered_29 ?_
      refine lv_iload hx hb dL_isCovered_30 (lv_at hl 7 rfl) ?_
      refine n_iadd hx hb dL_isCovered_32 ?_
      refine y_ald X h (fun _ => rfl) (by decide) (hL (42, 0, 0, 0) ⟨by decide, rfl, rfl, rfl⟩) (by omega) (v := X (42, 0, 0, 0) ((6 * k) + d)) rfl dL_isCovered_33 ?_
      refine lv_if_le (tgt := 41) hx hb dL_isCovered_34 (by decide) (fun c_34 => ?_) (fun c_34 => ?_)
      · skip
        have hq : (mo X e k && (kmk X d k && allB (fun f => cvr (rw6 (X (41, 0, 0, 0)) (24 * k + 6 * f)) (rw6 (X (35, 0, 0, 0)) (24 * (10 * d + e) + 6 * f))) 0)) = false := by rw [kmk_f c_34, Bool.false_and, Bool.and_false]
        refine lv_iconst (v := nI 0) hx hb dL_isCovered_41 (by decide) ?_
        rw [bI_f hq]
        refine lv_istore (lv' := [(9, .int (bI (mo X e k && (kmk X d k && allB (fun f => cvr (rw6 (X (41, 0, 0, 0)) (24 * k + 6 * f)) (rw6 (X (35, 0, 0, 0)) (24 * (10 * d + e) + 6 * f))) 0)))), (8, .int (nI k)), (7, .int (bI (anyB (cvQ X d e) k))), (0, .ref (ad (35, 0, 0, 0))), (1, .ref (ad (41, 0, 0, 0))), (2, .ref (ad (42, 0, 0, 0))), (3, .ref (ad (40, 0, 0, 0))), (4, .ref (ad (45, 0, 0, 0))), (5, .int (nI d)), (6, .int (nI e))]) hx hb dL_isCovered_42 hl (by decide) rfl (fun ls hl => ?_)
        refine lv_iconst (v := nI 0) hx hb dL_isCovered_44 (by decide) ?_
        refine lv_istore (lv' := [(10, .int (nI 0)), (9, .int (bI (mo X e k && (kmk X d k && allB (fun f => cvr (rw6 (X (41, 0, 0, 0)) (24 * k + 6 * f)) (rw6 (X (35, 0, 0, 0)) (24 * (10 * d + e) + 6 * f))) 0)))), (8, .int (nI k)), (7, .int (bI (anyB (cvQ X d e) k))), (0, .ref (ad (35, 0, 0, 0))), (1, .ref (ad (41, 0, 0, 0))), (2, .ref (ad (42, 0, 0, 0))), (3, .ref (ad (40, 0, 0, 0))), (4, .ref (ad (45, 0, 0, 0))), (5, .int (nI d)), (6, .int (nI e))]) hx hb dL_isCovered_45 hl (by decide) rfl (fun ls hl => ?_)
        refine y_loop (D := D) (A := wA ad Ks s.heap.size) (ad := ad) (Ks := Ks) (nL := 11) (fun f : Nat => lay tc ad gm dz (LL X)) (fun f => [(10, .int (nI f)), (9, .int (bI (mo X e k && (kmk X d k && allB (fun f => cvr (rw6 (X (41, 0, 0, 0)) (24 * k + 6 * f)) (rw6 (X (35, 0, 0, 0)) (24 * (10 * d + e) + 6 * f))) f)))), (8, .int (nI k)), (7, .int (bI (anyB (cvQ X d e) k))), (0, .ref (ad (35, 0, 0, 0))), (1, .ref (ad (41, 0, 0, 0))), (2, .ref (ad (42, 0, 0, 0))), (3, .ref (ad (40, 0, 0, 0))), (4, .ref (ad (45, 0, 0, 0))), (5, .int (nI d)), (6, .int (nI e))]) (fun _ => []) (fun f : Nat => f ≤ 4) (fun f => 4 - f) (fun f hi47 ih47 H locs ls h hl => ?_) 0 (Nat.zero_le _) (h.eq (congrArg (lay tc ad gm dz) rfl)) (lv_sub hl [0, 1, 2, 3, 4, 5, 6, 7, 8, 9, 10] rfl) rfl
        have h : Sx D (wA ad Ks s.heap.size) ad Ks (lay tc ad gm dz (LL X)) s H locs := h
        have hl : lv_has ls 11 [(10, .int (nI f)), (9, .int (bI (mo X e k && (kmk X d k && allB (fun f => cvr (rw6 (X (41, 0, 0, 0)) (24 * k + 6 * f)) (rw6 (X (35, 0, 0, 0)) (24 * (10 * d + e) + 6 * f))) f)))), (8, .int (nI k)), (7, .int (bI (anyB (cvQ X d e) k))), (0, .ref (ad (35, 0, 0, 0))), (1, .ref (ad (41, 0, 0, 0))), (2, .ref (ad (42, 0, 0, 0))), (3, .ref (ad (40, 0, 0, 0))), (4, .ref (ad (45, 0, 0, 0))), (5, .int (nI d)), (6, .int (nI e))] := hl
        refine lv_iload hx hb dL_isCovered_47 (lv_at hl 0 rfl) ?_
        refine lv_iconst (v := nI 4) hx hb dL_isCovered_49 (by decide) ?_
        refine n_icmp_ge (tgt := 97) hx hb (by omega) (by omega) dL_isCovered_50 (by decide) (fun c_50 => ?_) (fun c_50 => ?_)
        · skip
          obtain rfl : f = 4 := by omega
          refine lv_iload hx hb dL_isCovered_97 (lv_at hl 3 rfl) ?_
          refine b_if_ne (tgt := 107) hx hb dL_isCovered_99 (by decide) (fun c_99 => ?_) (fun c_99 => ?_)
          · skip
            have hq : anyB (cvQ X d e) (k + 1) = true := by rw [anyB, c_99, Bool.true_or]
            refine lv_iconst (v := nI 1) hx hb dL_isCovered_107 (by decide) ?_
            refine lv_goto (tgt := 112) hx hb dL_isCovered_108 (by decide) ?_
            rw [bI_t hq]
            refine lv_istore (lv' := [(7, .int (bI (anyB (cvQ X d e) (k + 1)))), (10, .int (nI f)), (9, .int (bI (mo X e k && (kmk X d k && allB (fun f => cvr (rw6 (X (41, 0, 0, 0)) (24 * k + 6 * f)) (rw6 (X (35, 0, 0, 0)) (24 * (10 * d + e) + 6 * f))) f)))), (8, .int (nI k)), (0, .ref (ad (35, 0, 0, 0))), (1, .ref (ad (41, 0, 0, 0))), (2, .ref (ad (42, 0, 0, 0))), (3, .ref (ad (40, 0, 0, 0))), (4, .ref (ad (45, 0, 0, 0))), (5, .int (nI d)), (6, .int (nI e))]) hx hb dL_isCovered_112 hl (by decide) rfl (fun ls hl => ?_)
            refine n_iinc (j := k) (n := 1) (lv' := [(8, .int (nI (k + 1))), (7, .int (bI (anyB (cvQ X d e) (k + 1)))), (10, .int (nI f)), (9, .int (bI (mo X e k && (kmk X d k && allB (fun f => cvr (rw6 (X (41, 0, 0, 0)) (24 * k + 6 * f)) (rw6 (X (35, 0, 0, 0)) (24 * (10 * d + e) + 6 * f))) f)))), (0, .ref (ad (35, 0, 0, 0))), (1, .ref (ad (41, 0, 0, 0))), (2, .ref (ad (42, 0, 0, 0))), (3, .ref (ad (40, 0, 0, 0))), (4, .ref (ad (45, 0, 0, 0))), (5, .int (nI d)), (6, .int (nI e))]) hx hb dL_isCovered_114 hl (k := 3) rfl (by decide) (by decide) rfl (fun ls hl => ?_)
            refine lv_goto (tgt := 6) hx hb dL_isCovered_117 (by decide) ?_
            exact ih6 (k + 1) (by omega) (by omega) H locs ls (h.eq (congrArg (lay tc ad gm dz) rfl)) (lv_sub hl [0, 1, 4, 5, 6, 7, 8, 9, 10] rfl)
          · skip
            refine lv_iload hx hb dL_isCovered_102 (lv_at hl 1 rfl) ?_
            refine b_if_eq (tgt := 111) hx hb dL_isCovered_104 (by decide) (fun c_104 => ?_) (fun c_104 => ?_)
            · skip
              have hq : anyB (cvQ X d e) (k + 1) = false := by rw [anyB, c_99, Bool.false_or]; exact (congrArg (mo X e k && ·) (congrArg (kmk X d k && ·) (cvm_f X k d e))).trans c_104
              refine lv_iconst (v := nI 0) hx hb dL_isCovered_111 (by decide) ?_
              rw [bI_f hq]
              refine lv_istore (lv' := [(7, .int (bI (anyB (cvQ X d e) (k + 1)))), (10, .int (nI f)), (9, .int (bI (mo X e k && (kmk X d k && allB (fun f => cvr (rw6 (X (41, 0, 0, 0)) (24 * k + 6 * f)) (rw6 (X (35, 0, 0, 0)) (24 * (10 * d + e) + 6 * f))) f)))), (8, .int (nI k)), (0, .ref (ad (35, 0, 0, 0))), (1, .ref (ad (41, 0, 0, 0))), (2, .ref (ad (42, 0, 0, 0))), (3, .ref (ad (40, 0, 0, 0))), (4, .ref (ad (45, 0, 0, 0))), (5, .int (nI d)), (6, .int (nI e))]) hx hb dL_isCovered_112 hl (by decide) rfl (fun ls hl => ?_)
              refine n_iinc (j := k) (n := 1) (lv' := [(8, .int (nI (k + 1))), (7, .int (bI (anyB (cvQ X d e) (k + 1)))), (10, .int (nI f)), (9, .int (bI (mo X e k && (kmk X d k && allB (fun f => cvr (rw6 (X (41, 0, 0, 0)) (24 * k + 6 * f)) (rw6 (X (35, 0, 0, 0)) (24 * (10 * d + e) + 6 * f))) f)))), (0, .ref (ad (35, 0, 0, 0))), (1, .ref (ad (41, 0, 0, 0))), (2, .ref (ad (42, 0, 0, 0))), (3, .ref (ad (40, 0, 0, 0))), (4, .ref (ad (45, 0, 0, 0))), (5, .int (nI d)), (6, .int (nI e))]) hx hb dL_isCovered_114 hl (k := 3) rfl (by decide) (by decide) rfl (fun ls hl => ?_)
              refine lv_goto (tgt := 6) hx hb dL_isCovered_117 (by decide) ?_
              exact ih6 (k + 1) (by omega) (by omega) H locs ls (h.eq (congrArg (lay tc ad gm dz) rfl)) (lv_sub hl [0, 1, 4, 5, 6, 7, 8, 9, 10] rfl)
            · skip
              have hq : anyB (cvQ X d e) (k + 1) = true := by rw [anyB, c_99, Bool.false_or]; exact (congrArg (mo X e k && ·) (congrArg (kmk X d k && ·) (cvm_f X k d e))).trans c_104
              refine lv_iconst (v := nI 1) hx hb dL_isCovered_107 (by decide) ?_
              refine lv_goto (tgt := 112) hx hb dL_isCovered_108 (by decide) ?_
              rw [bI_t hq]
              refine lv_istore (lv' := [(7, .int (bI (anyB (cvQ X d e) (k + 1)))), (10, .int (nI f)), (9, .int (bI (mo X e k && (kmk X d k && allB (fun f => cvr (rw6 (X (41, 0, 0, 0)) (24 * k + 6 * f)) (rw6 (X (35, 0, 0, 0)) (24 * (10 * d + e) + 6 * f))) f)))), (8, .int (nI k)), (0, .ref (ad (35, 0, 0, 0))), (1, .ref (ad (41, 0, 0, 0))), (2, .ref (ad (42, 0, 0, 0))), (3, .ref (ad (40, 0, 0, 0))), (4, .ref (ad (45, 0, 0, 0))), (5, .int (nI d)), (6, .int (nI e))]) hx hb dL_isCovered_112 hl (by decide) rfl (fun ls hl => ?_)
              refine n_iinc (j := k) (n := 1) (lv' := [(8, .int (nI (k + 1))), (7, .int (bI (anyB (cvQ X d e) (k + 1)))), (10, .int (nI f)), (9, .int (bI (mo X e k && (kmk X d k && allB (fun f => cvr (rw6 (X (41, 0, 0, 0)) (24 * k + 6 * f)) (rw6 (X (35, 0, 0, 0)) (24 * (10 * d + e) + 6 * f))) f)))), (0, .ref (ad (35, 0, 0, 0))), (1, .ref (ad (41, 0, 0, 0))), (2, .ref (ad (42, 0, 0, 0))), (3, .ref (ad (40, 0, 0, 0))), (4, .ref (ad (45, 0, 0, 0))), (5, .int (nI d)), (6, .int (nI e))]) hx hb dL_isCovered_114 hl (k := 3) rfl (by decide) (by decide) rfl (fun ls hl => ?_)
              refine lv_goto (tgt := 6) hx hb dL_isCovered_117 (by decide) ?_
              exact ih6 (k + 1) (by omega) (by omega) H locs ls (h.eq (congrArg (lay tc ad gm dz) rfl)) (lv_sub hl [0, 1, 4, 5, 6, 7, 8, 9, 10] rfl)
        · skip
          refine lv_iload hx hb dL_isCovered_53 (lv_at hl 1 rfl) ?_
          refine b_if_eq (tgt := 88) hx hb dL_isCovered_55 (by decide) (fun c_55 => ?_) (fun c_55 => ?_)
          · skip
            have hq : (mo X e k && (kmk X d k && allB (fun f => cvr (rw6 (X (41, 0, 0, 0)) (24 * k + 6 * f)) (rw6 (X (35, 0, 0, 0)) (24 * (10 * d + e) + 6 * f))) (f + 1))) = false := by rw [allB, ← Bool.and_assoc, ← Bool.and_assoc, Bool.and_assoc (mo X e k), c_55, Bool.false_and]
            refine lv_iconst (v := nI 0) hx hb dL_isCovered_88 (by decide) ?_
            rw [bI_f hq]
            refine lv_istore (lv' := [(9, .int (bI (mo X e k && (kmk X d k && allB (fun f => cvr (rw6 (X (41, 0, 0, 0)) (24 * k + 6 * f)) (rw6 (X (35, 0, 0, 0)) (24 * (10 * d + e) + 6 * f))) (f + 1))))), (10, .int (nI f)), (8, .int (nI k)), (7, .int (bI (anyB (cvQ X d e) k))), (0, .ref (ad (35, 0, 0, 0))), (1, .ref (ad (41, 0, 0, 0))), (2, .ref (ad (42, 0, 0, 0))), (3, .ref (ad (40, 0, 0, 0))), (4, .ref (ad (45, 0, 0, 0))), (5, .int (nI d)), (6, .int (nI e))]) hx hb dL_isCovered_89 hl (by decide) rfl (fun ls hl => ?_)
            refine n_iinc (j := f) (n := 1) (lv' := [(10, .int (nI (f + 1))), (9, .int (bI (mo X e k && (kmk X d k && allB (fun f => cvr (rw6 (X (41, 0, 0, 0)) (24 * k + 6 * f)) (rw6 (X (35, 0, 0, 0)) (24 * (10 * d + e) + 6 * f))) (f + 1))))), (8, .int (nI k)), (7, .int (bI (anyB (cvQ X d e) k))), (0, .ref (ad (35, 0, 0, 0))), (1, .ref (ad (41, 0, 0, 0))), (2, .ref (ad (42, 0, 0, 0))), (3, .ref (ad (40, 0, 0, 0))), (4, .ref (ad (45, 0, 0, 0))), (5, .int (nI d)), (6, .int (nI e))]) hx hb dL_isCovered_91 hl (k := 1) rfl (by decide) (by decide) rfl (fun ls hl => ?_)
            refine lv_goto (tgt := 47) hx hb dL_isCovered_94 (by decide) ?_
            exact ih47 (f + 1) (by omega) (by omega) H locs ls (h.eq (congrArg (lay tc ad gm dz) rfl)) (lv_sub hl [0, 1, 2, 3, 4, 5, 6, 7, 8, 9, 10] rfl)
          · skip
            refine lv_aload_n hx hb dL_isCovered_58 rfl (lv_at hl 5 rfl) ?_
            refine lv_iconst (v := nI 4) hx hb dL_isCovered_59 (by decide) ?_
            refine lv_iload hx hb dL_isCovered_60 (lv_at hl 2 rfl) ?_
            refine n_imul hx hb dL_isCovered_62 ?_
            refine lv_iload hx hb dL_isCovered_63 (lv_at hl 0 rfl) ?_
            refine n_iadd hx hb dL_isCovered_65 ?_
            refine z_lald X h pkA (fun _ => rfl) (by decide) (hL (41, 0, 0, 0) ⟨by decide, rfl, rfl, rfl⟩) (by omega) (v := pk (rw6 (X (41, 0, 0, 0)) (24 * k + 6 * f))) pkA_at dL_isCovered_66 ?_
            refine lv_aload_n hx hb dL_isCovered_67 rfl (lv_at hl 4 rfl) ?_
            refine lv_iload hx hb dL_isCovered_68 (lv_at hl 9 rfl) ?_
            refine lv_iload hx hb dL_isCovered_70 (lv_at hl 10 rfl) ?_
            refine lv_iload hx hb dL_isCovered_72 (lv_at hl 0 rfl) ?_
            refine x_doneI X h (x_runS X h (m_L_at (LL X) d e f _) F_L_at q744 q745 rfl (by decide) (by decide) ⟨Nat.le_refl _, Nat.le_refl _⟩ hl.1 (Nat.le_of_ble_eq_true rfl) dL_isCovered_74 rfl) (fun H locs h => ?_)
            refine z_lald X h pkB (fun _ => rfl) (by decide) (hL (35, 0, 0, 0) ⟨by decide, rfl, rfl, rfl⟩) (by omega) (v := pk (rw6 (X (35, 0, 0, 0)) (24 * (10 * d + e) + 6 * f))) (pkB_at (by omega) (by omega)) dL_isCovered_77 ?_
            refine x_doneI X h (x_runS X h (m_L_covers (LL X) (rw6 (X (41, 0, 0, 0)) (24 * k + 6 * f)) (rw6 (X (35, 0, 0, 0)) (24 * (10 * d + e) + 6 * f)) (fun _ _ => hB.2.2.2 _) (fun _ _ => hB.1 _) _) F_L_covers q747 q748 rfl (by decide) (by decide) ⟨Nat.le_refl _, Nat.le_refl _⟩ hl.1 (Nat.le_of_ble_eq_true rfl) dL_isCovered_78 rfl) (fun H locs h => ?_)
            refine b_if_eq (tgt := 88) hx hb dL_isCovered_81 (by decide) (fun c_81 => ?_) (fun c_81 => ?_)
            · skip
              have hq : (mo X e k && (kmk X d k && allB (fun f => cvr (rw6 (X (41, 0, 0, 0)) (24 * k + 6 * f)) (rw6 (X (35, 0, 0, 0)) (24 * (10 * d + e) + 6 * f))) (f + 1))) = false := by rw [allB_n c_81, Bool.and_false, Bool.and_false, Bool.and_false]
              refine lv_iconst (v := nI 0) hx hb dL_isCovered_88 (by decide) ?_
              rw [bI_f hq]
              refine lv_istore (lv' := [(9, .int (bI (mo X e k && (kmk X d k && allB (fun f => cvr (rw6 (X (41, 0, 0, 0)) (24 * k + 6 * f)) (rw6 (X (35, 0, 0, 0)) (24 * (10 * d + e) + 6 * f))) (f + 1))))), (10, .int (nI f)), (8, .int (nI k)), (7, .int (bI (anyB (cvQ X d e) k))), (0, .ref (ad (35, 0, 0, 0))), (1, .ref (ad (41, 0, 0, 0))), (2, .ref (ad (42, 0, 0, 0))), (3, .ref (ad (40, 0, 0, 0))), (4, .ref (ad (45, 0, 0, 0))), (5, .int (nI d)), (6, .int (nI e))]) hx hb dL_isCovered_89 hl (by decide) rfl (fun ls hl => ?_)
              refine n_iinc (j := f) (n := 1) (lv' := [(10, .int (nI (f + 1))), (9, .int (bI (mo X e k && (kmk X d k && allB (fun f => cvr (rw6 (X (41, 0, 0, 0)) (24 * k + 6 * f)) (rw6 (X (35, 0, 0, 0)) (24 * (10 * d + e) + 6 * f))) (f + 1))))), (8, .int (nI k)), (7, .int (bI (anyB (cvQ X d e) k))), (0, .ref (ad (35, 0, 0, 0))), (1, .ref (ad (41, 0, 0, 0))), (2, .ref (ad (42, 0, 0, 0))), (3, .ref (ad (40, 0, 0, 0))), (4, .ref (ad (45, 0, 0, 0))), (5, .int (nI d)), (6, .int (nI e))]) hx hb dL_isCovered_91 hl (k := 1) rfl (by decide) (by decide) rfl (fun ls hl => ?_)
              refine lv_goto (tgt := 47) hx hb dL_isCovered_94 (by decide) ?_
              exact ih47 (f + 1) (by omega) (by omega) H locs ls (h.eq (congrArg (lay tc ad gm dz) rfl)) (lv_sub hl [0, 1, 2, 3, 4, 5, 6, 7, 8, 9, 10] rfl)
            · skip
              have hq : (mo X e k && (kmk X d k && allB (fun f => cvr (rw6 (X (41, 0, 0, 0)) (24 * k + 6 * f)) (rw6 (X (35, 0, 0, 0)) (24 * (10 * d + e) + 6 * f))) (f + 1))) = true := by rw [allB_n c_81, Bool.and_true]; exact c_55
              refine lv_iconst (v := nI 1) hx hb dL_isCovered_84 (by decide) ?_
              refine lv_goto (tgt := 89) hx hb dL_isCovered_85 (by decide) ?_
              rw [bI_t hq]
              refine lv_istore (lv' := [(9, .int (bI (mo X e k && (kmk X d k && allB (fun f => cvr (rw6 (X (41, 0, 0, 0)) (24 * k + 6 * f)) (rw6 (X (35, 0, 0, 0)) (24 * (10 * d + e) + 6 * f))) (f + 1))))), (10, .int (nI f)), (8, .int (nI k)), (7, .int (bI (anyB (cvQ X d e) k))), (0, .ref (ad (35, 0, 0, 0))), (1, .ref (ad (41, 0, 0, 0))), (2, .ref (ad (42, 0, 0, 0))), (3, .ref (ad (40, 0, 0, 0))), (4, .ref (ad (45, 0, 0, 0))), (5, .int (nI d)), (6, .int (nI e))]) hx hb dL_isCovered_89 hl (by decide) rfl (fun ls hl => ?_)
              refine n_iinc (j := f) (n := 1) (lv' := [(10, .int (nI (f + 1))), (9, .int (bI (mo X e k && (kmk X d k && allB (fun f => cvr (rw6 (X (41, 0, 0, 0)) (24 * k + 6 * f)) (rw6 (X (35, 0, 0, 0)) (24 * (10 * d + e) + 6 * f))) (f + 1))))), (8, .int (nI k)), (7, .int (bI (anyB (cvQ X d e) k))), (0, .ref (ad (35, 0, 0, 0))), (1, .ref (ad (41, 0, 0, 0))), (2, .ref (ad (42, 0, 0, 0))), (3, .ref (ad (40, 0, 0, 0))), (4, .ref (ad (45, 0, 0, 0))), (5, .int (nI d)), (6, .int (nI e))]) hx hb dL_isCovered_91 hl (k := 1) rfl (by decide) (by decide) rfl (fun ls hl => ?_)
              refine lv_goto (tgt := 47) hx hb dL_isCovered_94 (by decide) ?_
              exact ih47 (f + 1) (by omega) (by omega) H locs ls (h.eq (congrArg (lay tc ad gm dz) rfl)) (lv_sub hl [0, 1, 2, 3, 4, 5, 6, 7, 8, 9, 10] rfl)
      · skip
        have hq : (mo X e k && (kmk X d k && allB (fun f => cvr (rw6 (X (41, 0, 0, 0)) (24 * k + 6 * f)) (rw6 (X (35, 0, 0, 0)) (24 * (10 * d + e) + 6 * f))) 0)) = true := by rw [mo_t (Decidable.byContradiction c_21), kmk_t c_34]; rfl
        refine lv_iconst (v := nI 1) hx hb dL_isCovered_37 (by decide) ?_
        refine lv_goto (tgt := 42) hx hb dL_isCovered_38 (by decide) ?_
        rw [bI_t hq]
        refine lv_istore (lv' := [(9, .int (bI (mo X e k && (kmk X d k && allB (fun f => cvr (rw6 (X (41, 0, 0, 0)) (24 * k + 6 * f)) (rw6 (X (35, 0, 0, 0)) (24 * (10 * d + e) + 6 * f))) 0)))), (8, .int (nI k)), (7, .int (bI (anyB (cvQ X d e) k))), (0, .ref (ad (35, 0, 0, 0))), (1, .ref (ad (41, 0, 0, 0))), (2, .ref (ad (42, 0, 0, 0))), (3, .ref (ad (40, 0, 0, 0))), (4, .ref (ad (45, 0, 0, 0))), (5, .int (nI d)), (6, .int (nI e))]) hx hb dL_isCovered_42 hl (by decide) rfl (fun ls hl => ?_)
        refine lv_iconst (v := nI 0) hx hb dL_isCovered_44 (by decide) ?_
        refine lv_istore (lv' := [(10, .int (nI 0)), (9, .int (bI (mo X e k && (kmk X d k && allB (fun f => cvr (rw6 (X (41, 0, 0, 0)) (24 * k + 6 * f)) (rw6 (X (35, 0, 0, 0)) (24 * (10 * d + e) + 6 * f))) 0)))), (8, .int (nI k)), (7, .int (bI (anyB (cvQ X d e) k))), (0, .ref (ad (35, 0, 0, 0))), (1, .ref (ad (41, 0, 0, 0))), (2, .ref (ad (42, 0, 0, 0))), (3, .ref (ad (40, 0, 0, 0))), (4, .ref (ad (45, 0, 0, 0))), (5, .int (nI d)), (6, .int (nI e))]) hx hb dL_isCovered_45 hl (by decide) rfl (fun ls hl => ?_)
        refine y_loop (D := D) (A := wA ad Ks s.heap.size) (ad := ad) (Ks := Ks) (nL := 11) (fun f : Nat => lay tc ad gm dz (LL X)) (fun f => [(10, .int (nI f)), (9, .int (bI (mo X e k && (kmk X d k && allB (fun f => cvr (rw6 (X (41, 0, 0, 0)) (24 * k + 6 * f)) (rw6 (X (35, 0, 0, 0)) (24 * (10 * d + e) + 6 * f))) f)))), (8, .int (nI k)), (7, .int (bI (anyB (cvQ X d e) k))), (0, .ref (ad (35, 0, 0, 0))), (1, .ref (ad (41, 0, 0, 0))), (2, .ref (ad (42, 0, 0, 0))), (3, .ref (ad (40, 0, 0, 0))), (4, .ref (ad (45, 0, 0, 0))), (5, .int (nI d)), (6, .int (nI e))]) (fun _ => []) (fun f : Nat => f ≤ 4) (fun f => 4 - f) (fun f hi47 ih47 H locs ls h hl => ?_) 0 (Nat.zero_le _) (h.eq (congrArg (lay tc ad gm dz) rfl)) (lv_sub hl [0, 1, 2, 3, 4, 5, 6, 7, 8, 9, 10] rfl) rfl
        have h : Sx D (wA ad Ks s.heap.size) ad Ks (lay tc ad gm dz (LL X)) s H locs := h
        have hl : lv_has ls 11 [(10, .int (nI f)), (9, .int (bI (mo X e k && (kmk X d k && allB (fun f => cvr (rw6 (X (41, 0, 0, 0)) (24 * k + 6 * f)) (rw6 (X (35, 0, 0, 0)) (24 * (10 * d + e) + 6 * f))) f)))), (8, .int (nI k)), (7, .int (bI (anyB (cvQ X d e) k))), (0, .ref (ad (35, 0, 0, 0))), (1, .ref (ad (41, 0, 0, 0))), (2, .ref (ad (42, 0, 0, 0))), (3, .ref (ad (40, 0, 0, 0))), (4, .ref (ad (45, 0, 0, 0))), (5, .int (nI d)), (6, .int (nI e))] := hl
        refine lv_iload hx hb dL_isCovered_47 (lv_at hl 0 rfl) ?_
        refine lv_iconst (v := nI 4) hx hb dL_isCovered_49 (by decide) ?_
        refine n_icmp_ge (tgt := 97) hx hb (by omega) (by omega) dL_isCovered_50 (by decide) (fun c_50 => ?_) (fun c_50 => ?_)
        · skip
          obtain rfl : f = 4 := by omega
          refine lv_iload hx hb dL_isCovered_97 (lv_at hl 3 rfl) ?_
          refine b_if_ne (tgt := 107) hx hb dL_isCovered_99 (by decide) (fun c_99 => ?_) (fun c_99 => ?_)
          · skip
            have hq : anyB (cvQ X d e) (k + 1) = true := by rw [anyB, c_99, Bool.true_or]
            refine lv_iconst (v := nI 1) hx hb dL_isCovered_107 (by decide) ?_
            refine lv_goto (tgt := 112) hx hb dL_isCovered_108 (by decide) ?_
            rw [bI_t hq]
            refine lv_istore (lv' := [(7, .int (bI (anyB (cvQ X d e) (k + 1)))), (10, .int (nI f)), (9, .int (bI (mo X e k && (kmk X d k && allB (fun f => cvr (rw6 (X (41, 0, 0, 0)) (24 * k + 6 * f)) (rw6 (X (35, 0, 0, 0)) (24 * (10 * d + e) + 6 * f))) f)))), (8, .int (nI k)), (0, .ref (ad (35, 0, 0, 0))), (1, .ref (ad (41, 0, 0, 0))), (2, .ref (ad (42, 0, 0, 0))), (3, .ref (ad (40, 0, 0, 0))), (4, .ref (ad (45, 0, 0, 0))), (5, .int (nI d)), (6, .int (nI e))]) hx hb dL_isCovered_112 hl (by decide) rfl (fun ls hl => ?_)
            refine n_iinc (j := k) (n := 1) (lv' := [(8, .int (nI (k + 1))), (7, .int (bI (anyB (cvQ X d e) (k + 1)))), (10, .int (nI f)), (9, .int (bI (mo X e k && (kmk X d k && allB (fun f => cvr (rw6 (X (41, 0, 0, 0)) (24 * k + 6 * f)) (rw6 (X (35, 0, 0, 0)) (24 * (10 * d + e) + 6 * f))) f)))), (0, .ref (ad (35, 0, 0, 0))), (1, .ref (ad (41, 0, 0, 0))), (2, .ref (ad (42, 0, 0, 0))), (3, .ref (ad (40, 0, 0, 0))), (4, .ref (ad (45, 0, 0, 0))), (5, .int (nI d)), (6, .int (nI e))]) hx hb dL_isCovered_114 hl (k := 3) rfl (by decide) (by decide) rfl (fun ls hl => ?_)
            refine lv_goto (tgt := 6) hx hb dL_isCovered_117 (by decide) ?_
            exact ih6 (k + 1) (by omega) (by omega) H locs ls (h.eq (congrArg (lay tc ad gm dz) rfl)) (lv_sub hl [0, 1, 4, 5, 6, 7, 8, 9, 10] rfl)
          · skip
            refine lv_iload hx hb dL_isCovered_102 (lv_at hl 1 rfl) ?_
            refine b_if_eq (tgt := 111) hx hb dL_isCovered_104 (by decide) (fun c_104 => ?_) (fun c_104 => ?_)
            · skip
              have hq : anyB (cvQ X d e) (k + 1) = false := by rw [anyB, c_99, Bool.false_or]; exact (congrArg (mo X e k && ·) (congrArg (kmk X d k && ·) (cvm_f X k d e))).trans c_104
              refine lv_iconst (v := nI 0) hx hb dL_isCovered_111 (by decide) ?_
              rw [bI_f hq]
              refine lv_istore (lv' := [(7, .int (bI (anyB (cvQ X d e) (k + 1)))), (10, .int (nI f)), (9, .int (bI (mo X e k && (kmk X d k && allB (fun f => cvr (rw6 (X (41, 0, 0, 0)) (24 * k + 6 * f)) (rw6 (X (35, 0, 0, 0)) (24 * (10 * d + e) + 6 * f))) f)))), (8, .int (nI k)), (0, .ref (ad (35, 0, 0, 0))), (1, .ref (ad (41, 0, 0, 0))), (2, .ref (ad (42, 0, 0, 0))), (3, .ref (ad (40, 0, 0, 0))), (4, .ref (ad (45, 0, 0, 0))), (5, .int (nI d)), (6, .int (nI e))]) hx hb dL_isCovered_112 hl (by decide) rfl (fun ls hl => ?_)
              refine n_iinc (j := k) (n := 1) (lv' := [(8, .int (nI (k + 1))), (7, .int (bI (anyB (cvQ X d e) (k + 1)))), (10, .int (nI f)), (9, .int (bI (mo X e k && (kmk X d k && allB (fun f => cvr (rw6 (X (41, 0, 0, 0)) (24 * k + 6 * f)) (rw6 (X (35, 0, 0, 0)) (24 * (10 * d + e) + 6 * f))) f)))), (0, .ref (ad (35, 0, 0, 0))), (1, .ref (ad (41, 0, 0, 0))), (2, .ref (ad (42, 0, 0, 0))), (3, .ref (ad (40, 0, 0, 0))), (4, .ref (ad (45, 0, 0, 0))), (5, .int (nI d)), (6, .int (nI e))]) hx hb dL_isCovered_114 hl (k := 3) rfl (by decide) (by decide) rfl (fun ls hl => ?_)
              refine lv_goto (tgt := 6) hx hb dL_isCovered_117 (by decide) ?_
              exact ih6 (k + 1) (by omega) (by omega) H locs ls (h.eq (congrArg (lay tc ad gm dz) rfl)) (lv_sub hl [0, 1, 4, 5, 6, 7, 8, 9, 10] rfl)
            · skip
              have hq : anyB (cvQ X d e) (k + 1) = true := by rw [anyB, c_99, Bool.false_or]; exact (congrArg (mo X e k && ·) (congrArg (kmk X d k && ·) (cvm_f X k d e))).trans c_104
              refine lv_iconst (v := nI 1) hx hb dL_isCovered_107 (by decide) ?_
              refine lv_goto (tgt := 112) hx hb dL_isCovered_108 (by decide) ?_
              rw [bI_t hq]
              refine lv_istore (lv' := [(7, .int (bI (anyB (cvQ X d e) (k + 1)))), (10, .int (nI f)), (9, .int (bI (mo X e k && (kmk X d k && allB (fun f => cvr (rw6 (X (41, 0, 0, 0)) (24 * k + 6 * f)) (rw6 (X (35, 0, 0, 0)) (24 * (10 * d + e) + 6 * f))) f)))), (8, .int (nI k)), (0, .ref (ad (35, 0, 0, 0))), (1, .ref (ad (41, 0, 0, 0))), (2, .ref (ad (42, 0, 0, 0))), (3, .ref (ad (40, 0, 0, 0))), (4, .ref (ad (45, 0, 0, 0))), (5, .int (nI d)), (6, .int (nI e))]) hx hb dL_isCovered_112 hl (by decide) rfl (fun ls hl => ?_)
              refine n_iinc (j := k) (n := 1) (lv' := [(8, .int (nI (k + 1))), (7, .int (bI (anyB (cvQ X d e) (k + 1)))), (10, .int (nI f)), (9, .int (bI (mo X e k && (kmk X d k && allB (fun f => cvr (rw6 (X (41, 0, 0, 0)) (24 * k + 6 * f)) (rw6 (X (35, 0, 0, 0)) (24 * (10 * d + e) + 6 * f))) f)))), (0, .ref (ad (35, 0, 0, 0))), (1, .ref (ad (41, 0, 0, 0))), (2, .ref (ad (42, 0, 0, 0))), (3, .ref (ad (40, 0, 0, 0))), (4, .ref (ad (45, 0, 0, 0))), (5, .int (nI d)), (6, .int (nI e))]) hx hb dL_isCovered_114 hl (k := 3) rfl (by decide) (by decide) rfl (fun ls hl => ?_)
              refine lv_goto (tgt := 6) hx hb dL_isCovered_117 (by decide) ?_
              exact ih6 (k + 1) (by omega) (by omega) H locs ls (h.eq (congrArg (lay tc ad gm dz) rfl)) (lv_sub hl [0, 1, 4, 5, 6, 7, 8, 9, 10] rfl)
        · skip
          refine lv_iload hx hb dL_isCovered_53 (lv_at hl 1 rfl) ?_
          refine b_if_eq (tgt := 88) hx hb dL_isCovered_55 (by decide) (fun c_55 => ?_) (fun c_55 => ?_)
          · skip
            have hq : (mo X e k && (kmk X d k && allB (fun f => cvr (rw6 (X (41, 0, 0, 0)) (24 * k + 6 * f)) (rw6 (X (35, 0, 0, 0)) (24 * (10 * d + e) + 6 * f))) (f + 1))) = false := by rw [allB, ← Bool.and_assoc, ← Bool.and_assoc, Bool.and_assoc (mo X e k), c_55, Bool.false_and]
            refine lv_iconst (v := nI 0) hx hb dL_isCovered_88 (by decide) ?_
            rw [bI_f hq]
            refine lv_istore (lv' := [(9, .int (bI (mo X e k && (kmk X d k && allB (fun f => cvr (rw6 (X (41, 0, 0, 0)) (24 * k + 6 * f)) (rw6 (X (35, 0, 0, 0)) (24 * (10 * d + e) + 6 * f))) (f + 1))))), (10, .int (nI f)), (8, .int (nI k)), (7, .int (bI (anyB (cvQ X d e) k))), (0, .ref (ad (35, 0, 0, 0))), (1, .ref (ad (41, 0, 0, 0))), (2, .ref (ad (42, 0, 0, 0))), (3, .ref (ad (40, 0, 0, 0))), (4, .ref (ad (45, 0, 0, 0))), (5, .int (nI d)), (6, .int (nI e))]) hx hb dL_isCovered_89 hl (by decide) rfl (fun ls hl => ?_)
            refine n_iinc (j := f) (n := 1) (lv' := [(10, .int (nI (f + 1))), (9, .int (bI (mo X e k && (kmk X d k && allB (fun f => cvr (rw6 (X (41, 0, 0, 0)) (24 * k + 6 * f)) (rw6 (X (35, 0, 0, 0)) (24 * (10 * d + e) + 6 * f))) (f + 1))))), (8, .int (nI k)), (7, .int (bI (anyB (cvQ X d e) k))), (0, .ref (ad (35, 0, 0, 0))), (1, .ref (ad (41, 0, 0, 0))), (2, .ref (ad (42, 0, 0, 0))), (3, .ref (ad (40, 0, 0, 0))), (4, .ref (ad (45, 0, 0, 0))), (5, .int (nI d)), (6, .int (nI e))]) hx hb dL_isCovered_91 hl (k := 1) rfl (by decide) (by decide) rfl (fun ls hl => ?_)
            refine lv_goto (tgt := 47) hx hb dL_isCovered_94 (by decide) ?_
            exact ih47 (f + 1) (by omega) (by omega) H locs ls (h.eq (congrArg (lay tc ad gm dz) rfl)) (lv_sub hl [0, 1, 2, 3, 4, 5, 6, 7, 8, 9, 10] rfl)
          · skip
            refine lv_aload_n hx hb dL_isCovered_58 rfl (lv_at hl 5 rfl) ?_
            refine lv_iconst (v := nI 4) hx hb dL_isCovered_59 (by decide) ?_
            refine lv_iload hx hb dL_isCovered_60 (lv_at hl 2 rfl) ?_
            refine n_imul hx hb dL_isCovered_62 ?_
            refine lv_iload hx hb dL_isCovered_63 (lv_at hl 0 rfl) ?_
            refine n_iadd hx hb dL_isCovered_65 ?_
            refine z_lald X h pkA (fun _ => rfl) (by decide) (hL (41, 0, 0, 0) ⟨by decide, rfl, rfl, rfl⟩) (by omega) (v := pk (rw6 (X (41, 0, 0, 0)) (24 * k + 6 * f))) pkA_at dL_isCovered_66 ?_
            refine lv_aload_n hx hb dL_isCovered_67 rfl (lv_at hl 4 rfl) ?_
            refine lv_iload hx hb dL_isCovered_68 (lv_at hl 9 rfl) ?_
            refine lv_iload hx hb dL_isCovered_70 (lv_at hl 10 rfl) ?_
            refine lv_iload hx hb dL_isCovered_72 (lv_at hl 0 rfl) ?_
            refine x_doneI X h (x_runS X h (m_L_at (LL X) d e f _) F_L_at q744 q745 rfl (by decide) (by decide) ⟨Nat.le_refl _, Nat.le_refl _⟩ hl.1 (Nat.le_of_ble_eq_true rfl) dL_isCovered_74 rfl) (fun H locs h => ?_)
            refine z_lald X h pkB (fun _ => rfl) (by decide) (hL (35, 0, 0, 0) ⟨by decide, rfl, rfl, rfl⟩) (by omega) (v := pk (rw6 (X (35, 0, 0, 0)) (24 * (10 * d + e) + 6 * f))) (pkB_at (by omega) (by omega)) dL_isCovered_77 ?_
            refine x_doneI X h (x_runS X h (m_L_covers (LL X) (rw6 (X (41, 0, 0, 0)) (24 * k + 6 * f)) (rw6 (X (35, 0, 0, 0)) (24 * (10 * d + e) + 6 * f)) (fun _ _ => hB.2.2.2 _) (fun _ _ => hB.1 _) _) F_L_covers q747 q748 rfl (by decide) (by decide) ⟨Nat.le_refl _, Nat.le_refl _⟩ hl.1 (Nat.le_of_ble_eq_true rfl) dL_isCovered_78 rfl) (fun H locs h => ?_)
            refine b_if_eq (tgt := 88) hx hb dL_isCovered_81 (by decide) (fun c_81 => ?_) (fun c_81 => ?_)
            · skip
              have hq : (mo X e k && (kmk X d k && allB (fun f => cvr (rw6 (X (41, 0, 0, 0)) (24 * k + 6 * f)) (rw6 (X (35, 0, 0, 0)) (24 * (10 * d + e) + 6 * f))) (f + 1))) = false := by rw [allB_n c_81, Bool.and_false, Bool.and_false, Bool.and_false]
              refine lv_iconst (v := nI 0) hx hb dL_isCovered_88 (by decide) ?_
              rw [bI_f hq]
              refine lv_istore (lv' := [(9, .int (bI (mo X e k && (kmk X d k && allB (fun f => cvr (rw6 (X (41, 0, 0, 0)) (24 * k + 6 * f)) (rw6 (X (35, 0, 0, 0)) (24 * (10 * d + e) + 6 * f))) (f + 1))))), (10, .int (nI f)), (8, .int (nI k)), (7, .int (bI (anyB (cvQ X d e) k))), (0, .ref (ad (35, 0, 0, 0))), (1, .ref (ad (41, 0, 0, 0))), (2, .ref (ad (42, 0, 0, 0))), (3, .ref (ad (40, 0, 0, 0))), (4, .ref (ad (45, 0, 0, 0))), (5, .int (nI d)), (6, .int (nI e))]) hx hb dL_isCovered_89 hl (by decide) rfl (fun ls hl => ?_)
              refine n_iinc (j := f) (n := 1) (lv' := [(10, .int (nI (f + 1))), (9, .int (bI (mo X e k && (kmk X d k && allB (fun f => cvr (rw6 (X (41, 0, 0, 0)) (24 * k + 6 * f)) (rw6 (X (35, 0, 0, 0)) (24 * (10 * d + e) + 6 * f))) (f + 1))))), (8, .int (nI k)), (7, .int (bI (anyB (cvQ X d e) k))), (0, .ref (ad (35, 0, 0, 0))), (1, .ref (ad (41, 0, 0, 0))), (2, .ref (ad (42, 0, 0, 0))), (3, .ref (ad (40, 0, 0, 0))), (4, .ref (ad (45, 0, 0, 0))), (5, .int (nI d)), (6, .int (nI e))]) hx hb dL_isCovered_91 hl (k := 1) rfl (by decide) (by decide) rfl (fun ls hl => ?_)
              refine lv_goto (tgt := 47) hx hb dL_isCovered_94 (by decide) ?_
              exact ih47 (f + 1) (by omega) (by omega) H locs ls (h.eq (congrArg (lay tc ad gm dz) rfl)) (lv_sub hl [0, 1, 2, 3, 4, 5, 6, 7, 8, 9, 10] rfl)
            · skip
              have hq : (mo X e k && (kmk X d k && allB (fun f => cvr (rw6 (X (41, 0, 0, 0)) (24 * k + 6 * f)) (rw6 (X (35, 0, 0, 0)) (24 * (10 * d + e) + 6 * f))) (f + 1))) = true := by rw [allB_n c_81, Bool.and_true]; exact c_55
              refine lv_iconst (v := nI 1) hx hb dL_isCovered_84 (by decide) ?_
              refine lv_goto (tgt := 89) hx hb dL_isCovered_85 (by decide) ?_
              rw [bI_t hq]
              refine lv_istore (lv' := [(9, .int (bI (mo X e k && (kmk X d k && allB (fun f => cvr (rw6 (X (41, 0, 0, 0)) (24 * k + 6 * f)) (rw6 (X (35, 0, 0, 0)) (24 * (10 * d + e) + 6 * f))) (f + 1))))), (10, .int (nI f)), (8, .int (nI k)), (7, .int (bI (anyB (cvQ X d e) k))), (0, .ref (ad (35, 0, 0, 0))), (1, .ref (ad (41, 0, 0, 0))), (2, .ref (ad (42, 0, 0, 0))), (3, .ref (ad (40, 0, 0, 0))), (4, .ref (ad (45, 0, 0, 0))), (5, .int (nI d)), (6, .int (nI e))]) hx hb dL_isCovered_89 hl (by decide) rfl (fun ls hl => ?_)
              refine n_iinc (j := f) (n := 1) (lv' := [(10, .int (nI (f + 1))), (9, .int (bI (mo X e k && (kmk X d k && allB (fun f => cvr (rw6 (X (41, 0, 0, 0)) (24 * k + 6 * f)) (rw6 (X (35, 0, 0, 0)) (24 * (10 * d + e) + 6 * f))) (f + 1))))), (8, .int (nI k)), (7, .int (bI (anyB (cvQ X d e) k))), (0, .ref (ad (35, 0, 0, 0))), (1, .ref (ad (41, 0, 0, 0))), (2, .ref (ad (42, 0, 0, 0))), (3, .ref (ad (40, 0, 0, 0))), (4, .ref (ad (45, 0, 0, 0))), (5, .int (nI d)), (6, .int (nI e))]) hx hb dL_isCovered_91 hl (k := 1) rfl (by decide) (by decide) rfl (fun ls hl => ?_)
              refine lv_goto (tgt := 47) hx hb dL_isCovered_94 (by decide) ?_
              exact ih47 (f + 1) (by omega) (by omega) H locs ls (h.eq (congrArg (lay tc ad gm dz) rfl)) (lv_sub hl [0, 1, 2, 3, 4, 5, 6, 7, 8, 9, 10] rfl)

set_option maxHeartbeats 4000000 in
set_option maxRecDepth 100000 in
theorem m_L_state {l : Launch} {D : va_G} {tc : TC} {dz : Nat} {ad : KN → Nat} {Ks : List KN} {gm : GM} (X : Mem) (hL : LV gm Ks) (hB : BR X) (hK : K01 X) (n m t : Nat) (hN : NR X n m t) (hn2 : n ≤ 2) (hm10 : m ≤ 10) (ht9 : t ≤ 2000) (d e : Nat) (hd : d < 6) (he : e < 2) : MI l yL_state cL_state 10 (Option.some ClassFile.FieldType.int) 3 D tc dz ad Ks (lay tc ad gm dz (LL X)) [.ref (ad (35, 0, 0, 0)), .ref (ad (43, 0, 0, 0)), .ref (ad (41, 0, 0, 0)), .ref (ad (42, 0, 0, 0)), .ref (ad (40, 0, 0, 0)), .ref (ad (45, 0, 0, 0)), .int (nI d), .int (nI e)] (nI (mstR X d e m)) (lay tc ad gm dz (LL X)) := by
  intro sz
  obtain ⟨ka, kb, hka, hkb, h34, h38, h43⟩ := hK.at (d := d) he
  refine x_ofW (by decide +kernel) (Nat.le_of_ble_eq_true rfl) (fun pp ee s mm bel meth cd ls X hr hin hz h hl => ?_)
  subst hz
  obtain ⟨hx, hb, hmaxL, hown, hts⟩ := id X.1
  have hl : lv_has ls 10 [(0, .ref (ad (35, 0, 0, 0))), (1, .ref (ad (43, 0, 0, 0))), (2, .ref (ad (41, 0, 0, 0))), (3, .ref (ad (42, 0, 0, 0))), (4, .ref (ad (40, 0, 0, 0))), (5, .ref (ad (45, 0, 0, 0))), (6, .int (nI d)), (7, .int (nI e))] := hl
  refine lv_aload_n hx hb dL_state_0 rfl (lv_at hl 1 rfl) ?_
  refine lv_iconst (v := nI 2) hx hb dL_state_1 (by decide) ?_
  refine lv_iload hx hb dL_state_2 (lv_at hl 6 rfl) ?_
  refine n_imul hx hb dL_state_4 ?_
  refine lv_iload hx hb dL_state_5 (lv_at hl 7 rfl) ?_
  refine n_iadd hx hb dL_state_7 ?_
  refine y_ald X h (fun _ => rfl) (by decide) (hL (43, 0, 0, 0) ⟨by decide, rfl, rfl, rfl⟩) (by omega) (v := nI (ka + 2 * kb)) h43 dL_state_8 ?_
  refine lv_iconst (v := nI 2) hx hb dL_state_9 (by decide) ?_
  refine n_irem hx hb (by omega) (by omega) (by omega) dL_state_10 ?_
  refine n_if_ne (tgt := 16) hx hb (by omega) dL_state_11 (by decide) (fun c_11 => ?_) (fun c_11 => ?_)
  · skip
    have k1 : ¬ X (34, 0, 0, 0) (10 * d + e) = 0 := by rw [h34, nz_nI (by omega)]; omega
    refine lv_aload_n hx hb dL_state_16 rfl (lv_at hl 0 rfl) ?_
    refine lv_aload_n hx hb dL_state_17 rfl (lv_at hl 2 rfl) ?_
    refine lv_aload_n hx hb dL_state_18 rfl (lv_at hl 3 rfl) ?_
    refine lv_aload hx hb dL_state_19 (lv_at hl 4 rfl) ?_
    refine lv_aload hx hb dL_state_21 (lv_at hl 5 rfl) ?_
    refine lv_iload hx hb dL_state_23 (lv_at hl 6 rfl) ?_
    refine lv_iload hx hb dL_state_25 (lv_at hl 7 rfl) ?_
    refine x_doneI X h (x_runS X h (m_L_isCovered X hL hB n m t hN hn2 hm10 ht9 d e (by omega) (by omega) _) F_L_isCovered q741 q742 rfl (by decide) (by decide) ⟨Nat.le_refl _, Nat.le_refl _⟩ hl.1 (Nat.le_of_ble_eq_true rfl) dL_state_27 rfl) (fun H locs h => ?_)
    refine lv_istore (lv' := [(8, .int (bI (cvt X d e m))), (0, .ref (ad (35, 0, 0, 0))), (1, .ref (ad (43, 0, 0, 0))), (2, .ref (ad (41, 0, 0, 0))), (3, .ref (ad (42, 0, 0, 0))), (4, .ref (ad (40, 0, 0, 0))), (5, .ref (ad (45, 0, 0, 0))), (6, .int (nI d)), (7, .int (nI e))]) hx hb dL_state_30 hl (by decide) rfl (fun ls hl => ?_)
    refine lv_aload_n hx hb dL_state_32 rfl (lv_at hl 1 rfl) ?_
    refine lv_iload hx hb dL_state_33 (lv_at hl 7 rfl) ?_
    refine lv_iload hx hb dL_state_35 (lv_at hl 8 rfl) ?_
    refine x_doneI X h (x_runS X h (m_L_all X hL hB d e (by omega) (by omega) _) F_L_all q754 q755 rfl (by decide) (by decide) ⟨Nat.le_refl _, Nat.le_refl _⟩ hl.1 (Nat.le_of_ble_eq_true rfl) dL_state_37 rfl) (fun H locs h => ?_)
    refine lv_istore (lv' := [(9, .int (nI (cnA X d e 4))), (8, .int (bI (cvt X d e m))), (0, .ref (ad (35, 0, 0, 0))), (1, .ref (ad (43, 0, 0, 0))), (2, .ref (ad (41, 0, 0, 0))), (3, .ref (ad (42, 0, 0, 0))), (4, .ref (ad (40, 0, 0, 0))), (5, .ref (ad (45, 0, 0, 0))), (6, .int (nI d)), (7, .int (nI e))]) hx hb dL_state_40 hl (by decide) rfl (fun ls hl => ?_)
    have hcA := cnA_le X d e 4
    refine lv_iload hx hb dL_state_42 (lv_at hl 0 rfl) ?_
    refine lv_if_le (tgt := 56) hx hb dL_state_44 (by decide) (fun c_44 => ?_) (fun c_44 => ?_)
    · skip
      refine lv_iload hx hb dL_state_56 (lv_at hl 1 rfl) ?_
      refine b_if_eq (tgt := 65) hx hb dL_state_58 (by decide) (fun c_58 => ?_) (fun c_58 => ?_)
      · skip
        refine lv_iconst (v := nI 3) hx hb dL_state_65 (by decide) ?_
        refine x_iret X h hr rfl ?_ (fun _ _ => rfl) dL_state_66
        · unfold mstR thr; rw [if_neg k1, if_neg k1, show decide (0 < cnA X d e 4) = false from decide_eq_false (by omega), c_58]; rfl
      · skip
        refine lv_iconst (v := nI 2) hx hb dL_state_61 (by decide) ?_
        refine lv_goto (tgt := 66) hx hb dL_state_62 (by decide) ?_
        refine x_iret X h hr rfl ?_ (fun _ _ => rfl) dL_state_66
        · unfold mstR thr; rw [if_neg k1, if_neg k1, show decide (0 < cnA X d e 4) = false from decide_eq_false (by omega), c_58]; rfl
    · skip
      refine lv_iload hx hb dL_state_47 (lv_at hl 1 rfl) ?_
      refine b_if_ne (tgt := 56) hx hb dL_state_49 (by decide) (fun c_49 => ?_) (fun c_49 => ?_)
      · skip
        refine lv_iload hx hb dL_state_56 (lv_at hl 1 rfl) ?_
        refine b_if_eq (tgt := 65) hx hb dL_state_58 (by decide) (fun c => by rw [c_49] at c; cases c) (fun _ => ?_)
        refine lv_iconst (v := nI 2) hx hb dL_state_61 (by decide) ?_
        refine lv_goto (tgt := 66) hx hb dL_state_62 (by decide) ?_
        refine x_iret X h hr rfl ?_ (fun _ _ => rfl) dL_state_66
        · unfold mstR thr; rw [if_neg k1, if_neg k1, show decide (0 < cnA X d e 4) = true from decide_eq_true (by omega), c_49]; rfl
      · skip
        refine lv_iconst (v := nI 1) hx hb dL_state_52 (by decide) ?_
        refine lv_goto (tgt := 66) hx hb dL_state_53 (by decide) ?_
        refine x_iret X h hr rfl ?_ (fun _ _ => rfl) dL_state_66
        · unfold mstR thr; rw [if_neg k1, if_neg k1, show decide (0 < cnA X d e 4) = true from decide_eq_true (by omega), c_49]; rfl
  · skip
    refine lv_iconst (v := nI 0) hx hb dL_state_14 (by decide) ?_
    refine x_iret X h hr rfl ?_ (fun _ _ => rfl) dL_state_15
    · rw [show mstR X d e m = 0 from if_pos (by rw [h34, show ka = 0 by omega]; rfl)]

set_option maxHeartbeats 4000000 in
set_option maxRecDepth 100000 in
theorem m_L_isOld {l : Launch} {D : va_G} {tc : TC} {dz : Nat} {ad : KN → Nat} {Ks : List KN} {gm : GM} (X : Mem) (hL : LV gm Ks) (hB : BR X) (hK : K01 X) (d o e : Nat) (hd : d < 6) (ho : o < 6) (he : e < 2) : MI l yL_isOld cL_isOld 8 (Option.some ClassFile.FieldType.boolean) 2 D tc dz ad Ks (lay tc ad gm dz (LL X)) [.ref (ad (35, 0, 0, 0)), .ref (ad (39, 0, 0, 0)), .ref (ad (43, 0, 0, 0)), .int (nI d), .int (nI o), .int (nI e)] (bI (oldR X d o e)) (lay tc ad gm dz (LL X)) := by
  intro sz
  obtain ⟨ka, kb, hka, hkb, h34, h38, h43⟩ := hK.at (d := d) he
  refine x_ofW (by decide +kernel) (Nat.le_of_ble_eq_true rfl) (fun pp ee s mm bel meth cd ls X hr hin hz h hl => ?_)
  subst hz
  obtain ⟨hx, hb, hmaxL, hown, hts⟩ := id X.1
  have hl : lv_has ls 8 [(0, .ref (ad (35, 0, 0, 0))), (1, .ref (ad (39, 0, 0, 0))), (2, .ref (ad (43, 0, 0, 0))), (3, .int (nI d)), (4, .int (nI o)), (5, .int (nI e))] := hl
  refine lv_aload_n hx hb dL_isOld_0 rfl (lv_at hl 2 rfl) ?_
  refine lv_iconst (v := nI 2) hx hb dL_isOld_1 (by decide) ?_
  refine lv_iload_n hx hb dL_isOld_2 rfl (lv_at hl 3 rfl) ?_
  refine n_imul hx hb dL_isOld_3 ?_
  refine lv_iload hx hb dL_isOld_4 (lv_at hl 5 rfl) ?_
  refine n_iadd hx hb dL_isOld_6 ?_
  refine y_ald X h (fun _ => rfl) (by decide) (hL (43, 0, 0, 0) ⟨by decide, rfl, rfl, rfl⟩) (by omega) (v := nI (ka + 2 * kb)) h43 dL_isOld_7 ?_
  refine lv_iconst (v := nI 1) hx hb dL_isOld_8 (by decide) ?_
  refine n_icmp_le (tgt := 16) hx hb (by omega) (by omega) dL_isOld_9 (by decide) (fun c_9 => ?_) (fun c_9 => ?_)
  · skip
    have hq : ((!decide (X (38, 0, 0, 0) (10 * d + e) = 0)) && allB (fun f => cvr (rw6 (X (39, 0, 0, 0)) (24 * (10 * d + e) + 6 * f)) (rw6 (X (35, 0, 0, 0)) (24 * (10 * o + e) + 6 * f))) 0) = false := by rw [h38, show kb = 0 by omega]; rfl
    refine lv_iconst (v := nI 0) hx hb dL_isOld_16 (by decide) ?_
    rw [bI_f hq]
    refine lv_istore (lv' := [(6, .int (bI ((!decide (X (38, 0, 0, 0) (10 * d + e) = 0)) && allB (fun f => cvr (rw6 (X (39, 0, 0, 0)) (24 * (10 * d + e) + 6 * f)) (rw6 (X (35, 0, 0, 0)) (24 * (10 * o + e) + 6 * f))) 0))), (0, .ref (ad (35, 0, 0, 0))), (1, .ref (ad (39, 0, 0, 0))), (2, .ref (ad (43, 0, 0, 0))), (3, .int (nI d)), (4, .int (nI o)), (5, .int (nI e))]) hx hb dL_isOld_17 hl (by decide) rfl (fun ls hl => ?_)
    refine lv_iconst (v := nI 0) hx hb dL_isOld_19 (by decide) ?_
    refine lv_istore (lv' := [(7, .int (nI 0)), (6, .int (bI ((!decide (X (38, 0, 0, 0) (10 * d + e) = 0)) && allB (fun f => cvr (rw6 (X (39, 0, 0, 0)) (24 * (10 * d + e) + 6 * f)) (rw6 (X (35, 0, 0, 0)) (24 * (10 * o + e) + 6 * f))) 0))), (0, .ref (ad (35, 0, 0, 0))), (1, .ref (ad (39, 0, 0, 0))), (2, .ref (ad (43, 0, 0, 0))), (3, .int (nI d)), (4, .int (nI o)), (5, .int (nI e))]) hx hb dL_isOld_20 hl (by decide) rfl (fun ls hl => ?_)
    refine y_loop (D := D) (A := wA ad Ks s.heap.size) (ad := ad) (Ks := Ks) (nL := 8) (fun f : Nat => lay tc ad gm dz (LL X)) (fun f => [(7, .int (nI f)), (6, .int (bI ((!decide (X (38, 0, 0, 0) (10 * d + e) = 0)) && allB (fun f => cvr (rw6 (X (39, 0, 0, 0)) (24 * (10 * d + e) + 6 * f)) (rw6 (X (35, 0, 0, 0)) (24 * (10 * o + e) + 6 * f))) f))), (0, .ref (ad (35, 0, 0, 0))), (1, .ref (ad (39, 0, 0, 0))), (3, .int (nI d)), (4, .int (nI o)), (5, .int (nI e))]) (fun _ => []) (fun f : Nat => f ≤ 4) (fun f => 4 - f) (fun f hi22 ih22 H locs ls h hl => ?_) 0 (Nat.zero_le _) (h.eq (congrArg (lay tc ad gm dz) rfl)) (lv_sub hl [0, 1, 2, 3, 5, 6, 7] rfl) rfl
    have h : Sx D (wA ad Ks s.heap.size) ad Ks (lay tc ad gm dz (LL X)) s H locs := h
    have hl : lv_has ls 8 [(7, .int (nI f)), (6, .int (bI ((!decide (X (38, 0, 0, 0) (10 * d + e) = 0)) && allB (fun f => cvr (rw6 (X (39, 0, 0, 0)) (24 * (10 * d + e) + 6 * f)) (rw6 (X (35, 0, 0, 0)) (24 * (10 * o + e) + 6 * f))) f))), (0, .ref (ad (35, 0, 0, 0))), (1, .ref (ad (39, 0, 0, 0))), (3, .int (nI d)), (4, .int (nI o)), (5, .int (nI e))] := hl
    refine lv_iload hx hb dL_isOld_22 (lv_at hl 0 rfl) ?_
    refine lv_iconst (v := nI 4) hx hb dL_isOld_24 (by decide) ?_
    refine n_icmp_ge (tgt := 73) hx hb (by omega) (by omega) dL_isOld_25 (by decide) (fun c_25 => ?_) (fun c_25 => ?_)
    · skip
      obtain rfl : f = 4 := by omega
      refine lv_iload hx hb dL_isOld_73 (lv_at hl 1 rfl) ?_
      refine x_iret X h hr (bI_nar _) ?_ (fun _ _ => rfl) dL_isOld_75
      · unfold oldR; rw [old_f]
    · skip
      refine lv_iload hx hb dL_isOld_28 (lv_at hl 1 rfl) ?_
      refine b_if_eq (tgt := 64) hx hb dL_isOld_30 (by decide) (fun c_30 => ?_) (fun c_30 => ?_)
      · skip
        have hq : ((!decide (X (38, 0, 0, 0) (10 * d + e) = 0)) && allB (fun f => cvr (rw6 (X (39, 0, 0, 0)) (24 * (10 * d + e) + 6 * f)) (rw6 (X (35, 0, 0, 0)) (24 * (10 * o + e) + 6 * f))) (f + 1)) = false := by rw [allB, ← Bool.and_assoc, c_30, Bool.false_and]
        refine lv_iconst (v := nI 0) hx hb dL_isOld_64 (by decide) ?_
        rw [bI_f hq]
        refine lv_istore (lv' := [(6, .int (bI ((!decide (X (38, 0, 0, 0) (10 * d + e) = 0)) && allB (fun f => cvr (rw6 (X (39, 0, 0, 0)) (24 * (10 * d + e) + 6 * f)) (rw6 (X (35, 0, 0, 0)) (24 * (10 * o + e) + 6 * f))) (f + 1)))), (7, .int (nI f)), (0, .ref (ad (35, 0, 0, 0))), (1, .ref (ad (39, 0, 0, 0))), (3, .int (nI d)), (4, .int (nI o)), (5, .int (nI e))]) hx hb dL_isOld_65 hl (by decide) rfl (fun ls hl => ?_)
        refine n_iinc (j := f) (n := 1) (lv' := [(7, .int (nI (f + 1))), (6, .int (bI ((!decide (X (38, 0, 0, 0) (10 * d + e) = 0)) && allB (fun f => cvr (rw6 (X (39, 0, 0, 0)) (24 * (10 * d + e) + 6 * f)) (rw6 (X (35, 0, 0, 0)) (24 * (10 * o + e) + 6 * f))) (f + 1)))), (0, .ref (ad (35, 0, 0, 0))), (1, .ref (ad (39, 0, 0, 0))), (3, .int (nI d)), (4, .int (nI o)), (5, .int (nI e))]) hx hb dL_isOld_67 hl (k := 1) rfl (by decide) (by decide) rfl (fun ls hl => ?_)
        refine lv_goto (tgt := 22) hx hb dL_isOld_70 (by decide) ?_
        exact ih22 (f + 1) (by omega) (by omega) H locs ls (h.eq (congrArg (lay tc ad gm dz) rfl)) (lv_sub hl [0, 1, 2, 3, 4, 5, 6] rfl)
      · skip
        refine lv_aload_n hx hb dL_isOld_33 rfl (lv_at hl 3 rfl) ?_
        refine lv_iload_n hx hb dL_isOld_34 rfl (lv_at hl 4 rfl) ?_
        refine lv_iload hx hb dL_isOld_35 (lv_at hl 6 rfl) ?_
        refine lv_iload hx hb dL_isOld_37 (lv_at hl 0 rfl) ?_
        refine x_doneI X h (x_runS X h (m_L_at (LL X) d e f _) F_L_at q744 q745 rfl (by decide) (by decide) ⟨Nat.le_refl _, Nat.le_refl _⟩ hl.1 (Nat.le_of_ble_eq_true rfl) dL_isOld_39 rfl) (fun H locs h => ?_)
        refine z_lald X h pkB (fun _ => rfl) (by decide) (hL (39, 0, 0, 0) ⟨by decide, rfl, rfl, rfl⟩) (by omega) (v := pk (rw6 (X (39, 0, 0, 0)) (24 * (10 * d + e) + 6 * f))) (pkB_at (by omega) (by omega)) dL_isOld_42 ?_
        refine lv_aload_n hx hb dL_isOld_43 rfl (lv_at hl 2 rfl) ?_
        refine lv_iload hx hb dL_isOld_44 (lv_at hl 5 rfl) ?_
        refine lv_iload hx hb dL_isOld_46 (lv_at hl 6 rfl) ?_
        refine lv_iload hx hb dL_isOld_48 (lv_at hl 0 rfl) ?_
        refine x_doneI X h (x_runS X h (m_L_at (LL X) o e f _) F_L_at q744 q745 rfl (by decide) (by decide) ⟨Nat.le_refl _, Nat.le_refl _⟩ hl.1 (Nat.le_of_ble_eq_true rfl) dL_isOld_50 rfl) (fun H locs h => ?_)
        refine z_lald X h pkB (fun _ => rfl) (by decide) (hL (35, 0, 0, 0) ⟨by decide, rfl, rfl, rfl⟩) (by omega) (v := pk (rw6 (X (35, 0, 0, 0)) (24 * (10 * o + e) + 6 * f))) (pkB_at (by omega) (by omega)) dL_isOld_53 ?_
        refine x_doneI X h (x_runS X h (m_L_covers (LL X) (rw6 (X (39, 0, 0, 0)) (24 * (10 * d + e) + 6 * f)) (rw6 (X (35, 0, 0, 0)) (24 * (10 * o + e) + 6 * f)) (fun _ _ => hB.2.2.1 _) (fun _ _ => hB.1 _) _) F_L_covers q747 q748 rfl (by decide) (by decide) ⟨Nat.le_refl _, Nat.le_refl _⟩ hl.1 (Nat.le_of_ble_eq_true rfl) dL_isOld_54 rfl) (fun H locs h => ?_)
        refine b_if_eq (tgt := 64) hx hb dL_isOld_57 (by decide) (fun c_57 => ?_) (fun c_57 => ?_)
        · skip
          have hq : ((!decide (X (38, 0, 0, 0) (10 * d + e) = 0)) && allB (fun f => cvr (rw6 (X (39, 0, 0, 0)) (24 * (10 * d + e) + 6 * f)) (rw6 (X (35, 0, 0, 0)) (24 * (10 * o + e) + 6 * f))) (f + 1)) = false := by rw [allB_n c_57, Bool.and_false, Bool.and_false]
          refine lv_iconst (v := nI 0) hx hb dL_isOld_64 (by decide) ?_
          rw [bI_f hq]
          refine lv_istore (lv' := [(6, .int (bI ((!decide (X (38, 0, 0, 0) (10 * d + e) = 0)) && allB (fun f => cvr (rw6 (X (39, 0, 0, 0)) (24 * (10 * d + e) + 6 * f)) (rw6 (X (35, 0, 0, 0)) (24 * (10 * o + e) + 6 * f))) (f + 1)))), (7, .int (nI f)), (0, .ref (ad (35, 0, 0, 0))), (1, .ref (ad (39, 0, 0, 0))), (3, .int (nI d)), (4, .int (nI o)), (5, .int (nI e))]) hx hb dL_isOld_65 hl (by decide) rfl (fun ls hl => ?_)
          refine n_iinc (j := f) (n := 1) (lv' := [(7, .int (nI (f + 1))), (6, .int (bI ((!decide (X (38, 0, 0, 0) (10 * d + e) = 0)) && allB (fun f => cvr (rw6 (X (39, 0, 0, 0)) (24 * (10 * d + e) + 6 * f)) (rw6 (X (35, 0, 0, 0)) (24 * (10 * o + e) + 6 * f))) (f + 1)))), (0, .ref (ad (35, 0, 0, 0))), (1, .ref (ad (39, 0, 0, 0))), (3, .int (nI d)), (4, .int (nI o)), (5, .int (nI e))]) hx hb dL_isOld_67 hl (k := 1) rfl (by decide) (by decide) rfl (fun ls hl => ?_)
          refine lv_goto (tgt := 22) hx hb dL_isOld_70 (by decide) ?_
          exact ih22 (f + 1) (by omega) (by omega) H locs ls (h.eq (congrArg (lay tc ad gm dz) rfl)) (lv_sub hl [0, 1, 2, 3, 4, 5, 6] rfl)
        · skip
          have hq : ((!decide (X (38, 0, 0, 0) (10 * d + e) = 0)) && allB (fun f => cvr (rw6 (X (39, 0, 0, 0)) (24 * (10 * d + e) + 6 * f)) (rw6 (X (35, 0, 0, 0)) (24 * (10 * o + e) + 6 * f))) (f + 1)) = true := by rw [allB_n c_57, Bool.and_true]; exact c_30
          refine lv_iconst (v := nI 1) hx hb dL_isOld_60 (by decide) ?_
          refine lv_goto (tgt := 65) hx hb dL_isOld_61 (by decide) ?_
          rw [bI_t hq]
          refine lv_istore (lv' := [(6, .int (bI ((!decide (X (38, 0, 0, 0) (10 * d + e) = 0)) && allB (fun f => cvr (rw6 (X (39, 0, 0, 0)) (24 * (10 * d + e) + 6 * f)) (rw6 (X (35, 0, 0, 0)) (24 * (10 * o + e) + 6 * f))) (f + 1)))), (7, .int (nI f)), (0, .ref (ad (35, 0, 0, 0))), (1, .ref (ad (39, 0, 0, 0))), (3, .int (nI d)), (4, .int (nI o)), (5, .int (nI e))]) hx hb dL_isOld_65 hl (by decide) rfl (fun ls hl => ?_)
          refine n_iinc (j := f) (n := 1) (lv' := [(7, .int (nI (f + 1))), (6, .int (bI ((!decide (X (38, 0, 0, 0) (10 * d + e) = 0)) && allB (fun f => cvr (rw6 (X (39, 0, 0, 0)) (24 * (10 * d + e) + 6 * f)) (rw6 (X (35, 0, 0, 0)) (24 * (10 * o + e) + 6 * f))) (f + 1)))), (0, .ref (ad (35, 0, 0, 0))), (1, .ref (ad (39, 0, 0, 0))), (3, .int (nI d)), (4, .int (nI o)), (5, .int (nI e))]) hx hb dL_isOld_67 hl (k := 1) rfl (by decide) (by decide) rfl (fun ls hl => ?_)
          refine lv_goto (tgt := 22) hx hb dL_isOld_70 (by decide) ?_
          exact ih22 (f + 1) (by omega) (by omega) H locs ls (h.eq (congrArg (lay tc ad gm dz) rfl)) (lv_sub hl [0, 1, 2, 3, 4, 5, 6] rfl)
  · skip
    have hq : ((!decide (X (38, 0, 0, 0) (10 * d + e) = 0)) && allB (fun f => cvr (rw6 (X (39, 0, 0, 0)) (24 * (10 * d + e) + 6 * f)) (rw6 (X (35, 0, 0, 0)) (24 * (10 * o + e) + 6 * f))) 0) = true := by rw [h38, show kb = 1 by omega]; rfl
    refine lv_iconst (v := nI 1) hx hb dL_isOld_12 (by decide) ?_
    refine lv_goto (tgt := 17) hx hb dL_isOld_13 (by decide) ?_
    rw [bI_t hq]
    refine lv_istore (lv' := [(6, .int (bI ((!decide (X (38, 0, 0, 0) (10 * d + e) = 0)) && allB (fun f => cvr (rw6 (X (39, 0, 0, 0)) (24 * (10 * d + e) + 6 * f)) (rw6 (X (35, 0, 0, 0)) (24 * (10 * o + e) + 6 * f))) 0))), (0, .ref (ad (35, 0, 0, 0))), (1, .ref (ad (39, 0, 0, 0))), (2, .ref (ad (43, 0, 0, 0))), (3, .int (nI d)), (4, .int (nI o)), (5, .int (nI e))]) hx hb dL_isOld_17 hl (by decide) rfl (fun ls hl => ?_)
    refine lv_iconst (v := nI 0) hx hb dL_isOld_19 (by decide) ?_
    refine lv_istore (lv' := [(7, .int (nI 0)), (6, .int (bI ((!decide (X (38, 0, 0, 0) (10 * d + e) = 0)) && allB (fun f => cvr (rw6 (X (39, 0, 0, 0)) (24 * (10 * d + e) + 6 * f)) (rw6 (X (35, 0, 0, 0)) (24 * (10 * o + e) + 6 * f))) 0))), (0, .ref (ad (35, 0, 0, 0))), (1, .ref (ad (39, 0, 0, 0))), (2, .ref (ad (43, 0, 0, 0))), (3, .int (nI d)), (4, .int (nI o)), (5, .int (nI e))]) hx hb dL_isOld_20 hl (by decide) rfl (fun ls hl => ?_)
    refine y_loop (D := D) (A := wA ad Ks s.heap.size) (ad := ad) (Ks := Ks) (nL := 8) (fun f : Nat => lay tc ad gm dz (LL X)) (fun f => [(7, .int (nI f)), (6, .int (bI ((!decide (X (38, 0, 0, 0) (10 * d + e) = 0)) && allB (fun f => cvr (rw6 (X (39, 0, 0, 0)) (24 * (10 * d + e) + 6 * f)) (rw6 (X (35, 0, 0, 0)) (24 * (10 * o + e) + 6 * f))) f))), (0, .ref (ad (35, 0, 0, 0))), (1, .ref (ad (39, 0, 0, 0))), (3, .int (nI d)), (4, .int (nI o)), (5, .int (nI e))]) (fun _ => []) (fun f : Nat => f ≤ 4) (fun f => 4 - f) (fun f hi22 ih22 H locs ls h hl => ?_) 0 (Nat.zero_le _) (h.eq (congrArg (lay tc ad gm dz) rfl)) (lv_sub hl [0, 1, 2, 3, 5, 6, 7] rfl) rfl
    have h : Sx D (wA ad Ks s.heap.size) ad Ks (lay tc ad gm dz (LL X)) s H locs := h
    have hl : lv_has ls 8 [(7, .int (nI f)), (6, .int (bI ((!decide (X (38, 0, 0, 0) (10 * d + e) = 0)) && allB (fun f => cvr (rw6 (X (39, 0, 0, 0)) (24 * (10 * d + e) + 6 * f)) (rw6 (X (35, 0, 0, 0)) (24 * (10 * o + e) + 6 * f))) f))), (0, .ref (ad (35, 0, 0, 0))), (1, .ref (ad (39, 0, 0, 0))), (3, .int (nI d)), (4, .int (nI o)), (5, .int (nI e))] := hl
    refine lv_iload hx hb dL_isOld_22 (lv_at hl 0 rfl) ?_
    refine lv_iconst (v := nI 4) hx hb dL_isOld_24 (by decide) ?_
    refine n_icmp_ge (tgt := 73) hx hb (by omega) (by omega) dL_isOld_25 (by decide) (fun c_25 => ?_) (fun c_25 => ?_)
    · skip
      obtain rfl : f = 4 := by omega
      refine lv_iload hx hb dL_isOld_73 (lv_at hl 1 rfl) ?_
      refine x_iret X h hr (bI_nar _) ?_ (fun _ _ => rfl) dL_isOld_75
      · unfold oldR; rw [old_f]
    · skip
      refine lv_iload hx hb dL_isOld_28 (lv_at hl 1 rfl) ?_
      refine b_if_eq (tgt := 64) hx hb dL_isOld_30 (by decide) (fun c_30 => ?_) (fun c_30 => ?_)
      · skip
        have hq : ((!decide (X (38, 0, 0, 0) (10 * d + e) = 0)) && allB (fun f => cvr (rw6 (X (39, 0, 0, 0)) (24 * (10 * d + e) + 6 * f)) (rw6 (X (35, 0, 0, 0)) (24 * (10 * o + e) + 6 * f))) (f + 1)) = false := by rw [allB, ← Bool.and_assoc, c_30, Bool.false_and]
        refine lv_iconst (v := nI 0) hx hb dL_isOld_64 (by decide) ?_
        rw [bI_f hq]
        refine lv_istore (lv' := [(6, .int (bI ((!decide (X (38, 0, 0, 0) (10 * d + e) = 0)) && allB (fun f => cvr (rw6 (X (39, 0, 0, 0)) (24 * (10 * d + e) + 6 * f)) (rw6 (X (35, 0, 0, 0)) (24 * (10 * o + e) + 6 * f))) (f + 1)))), (7, .int (nI f)), (0, .ref (ad (35, 0, 0, 0))), (1, .ref (ad (39, 0, 0, 0))), (3, .int (nI d)), (4, .int (nI o)), (5, .int (nI e))]) hx hb dL_isOld_65 hl (by decide) rfl (fun ls hl => ?_)
        refine n_iinc (j := f) (n := 1) (lv' := [(7, .int (nI (f + 1))), (6, .int (bI ((!decide (X (38, 0, 0, 0) (10 * d + e) = 0)) && allB (fun f => cvr (rw6 (X (39, 0, 0, 0)) (24 * (10 * d + e) + 6 * f)) (rw6 (X (35, 0, 0, 0)) (24 * (10 * o + e) + 6 * f))) (f + 1)))), (0, .ref (ad (35, 0, 0, 0))), (1, .ref (ad (39, 0, 0, 0))), (3, .int (nI d)), (4, .int (nI o)), (5, .int (nI e))]) hx hb dL_isOld_67 hl (k := 1) rfl (by decide) (by decide) rfl (fun ls hl => ?_)
        refine lv_goto (tgt := 22) hx hb dL_isOld_70 (by decide) ?_
        exact ih22 (f + 1) (by omega) (by omega) H locs ls (h.eq (congrArg (lay tc ad gm dz) rfl)) (lv_sub hl [0, 1, 2, 3, 4, 5, 6] rfl)
      · skip
        refine lv_aload_n hx hb dL_isOld_33 rfl (lv_at hl 3 rfl) ?_
        refine lv_iload_n hx hb dL_isOld_34 rfl (lv_at hl 4 rfl) ?_
        refine lv_iload hx hb dL_isOld_35 (lv_at hl 6 rfl) ?_
        refine lv_iload hx hb dL_isOld_37 (lv_at hl 0 rfl) ?_
        refine x_doneI X h (x_runS X h (m_L_at (LL X) d e f _) F_L_at q744 q745 rfl (by decide) (by decide) ⟨Nat.le_refl _, Nat.le_refl _⟩ hl.1 (Nat.le_of_ble_eq_true rfl) dL_isOld_39 rfl) (fun H locs h => ?_)
        refine z_lald X h pkB (fun _ => rfl) (by decide) (hL (39, 0, 0, 0) ⟨by decide, rfl, rfl, rfl⟩) (by omega) (v := pk (rw6 (X (39, 0, 0, 0)) (24 * (10 * d + e) + 6 * f))) (pkB_at (by omega) (by omega)) dL_isOld_42 ?_
        refine lv_aload_n hx hb dL_isOld_43 rfl (lv_at hl 2 rfl) ?_
        refine lv_iload hx hb dL_isOld_44 (lv_at hl 5 rfl) ?_
        refine lv_iload hx hb dL_isOld_46 (lv_at hl 6 rfl) ?_
        refine lv_iload hx hb dL_isOld_48 (lv_at hl 0 rfl) ?_
        refine x_doneI X h (x_runS X h (m_L_at (LL X) o e f _) F_L_at q744 q745 rfl (by decide) (by decide) ⟨Nat.le_refl _, Nat.le_refl _⟩ hl.1 (Nat.le_of_ble_eq_true rfl) dL_isOld_50 rfl) (fun H locs h => ?_)
        refine z_lald X h pkB (fun _ => rfl) (by decide) (hL (35, 0, 0, 0) ⟨by decide, rfl, rfl, rfl⟩) (by omega) (v := pk (rw6 (X (35, 0, 0, 0)) (24 * (10 * o + e) + 6 * f))) (pkB_at (by omega) (by omega)) dL_isOld_53 ?_
        refine x_doneI X h (x_runS X h (m_L_covers (LL X) (rw6 (X (39, 0, 0, 0)) (24 * (10 * d + e) + 6 * f)) (rw6 (X (35, 0, 0, 0)) (24 * (10 * o + e) + 6 * f)) (fun _ _ => hB.2.2.1 _) (fun _ _ => hB.1 _) _) F_L_covers q747 q748 rfl (by decide) (by decide) ⟨Nat.le_refl _, Nat.le_refl _⟩ hl.1 (Nat.le_of_ble_eq_true rfl) dL_isOld_54 rfl) (fun H locs h => ?_)
        refine b_if_eq (tgt := 64) hx hb dL_isOld_57 (by decide) (fun c_57 => ?_) (fun c_57 => ?_)
        · skip
          have hq : ((!decide (X (38, 0, 0, 0) (10 * d + e) = 0)) && allB (fun f => cvr (rw6 (X (39, 0, 0, 0)) (24 * (10 * d + e) + 6 * f)) (rw6 (X (35, 0, 0, 0)) (24 * (10 * o + e) + 6 * f))) (f + 1)) = false := by rw [allB_n c_57, Bool.and_false, Bool.and_false]
          refine lv_iconst (v := nI 0) hx hb dL_isOld_64 (by decide) ?_
          rw [bI_f hq]
          refine lv_istore (lv' := [(6, .int (bI ((!decide (X (38, 0, 0, 0) (10 * d + e) = 0)) && allB (fun f => cvr (rw6 (X (39, 0, 0, 0)) (24 * (10 * d + e) + 6 * f)) (rw6 (X (35, 0, 0, 0)) (24 * (10 * o + e) + 6 * f))) (f + 1)))), (7, .int (nI f)), (0, .ref (ad (35, 0, 0, 0))), (1, .ref (ad (39, 0, 0, 0))), (3, .int (nI d)), (4, .int (nI o)), (5, .int (nI e))]) hx hb dL_isOld_65 hl (by decide) rfl (fun ls hl => ?_)
          refine n_iinc (j := f) (n := 1) (lv' := [(7, .int (nI (f + 1))), (6, .int (bI ((!decide (X (38, 0, 0, 0) (10 * d + e) = 0)) && allB (fun f => cvr (rw6 (X (39, 0, 0, 0)) (24 * (10 * d + e) + 6 * f)) (rw6 (X (35, 0, 0, 0)) (24 * (10 * o + e) + 6 * f))) (f + 1)))), (0, .ref (ad (35, 0, 0, 0))), (1, .ref (ad (39, 0, 0, 0))), (3, .int (nI d)), (4, .int (nI o)), (5, .int (nI e))]) hx hb dL_isOld_67 hl (k := 1) rfl (by decide) (by decide) rfl (fun ls hl => ?_)
          refine lv_goto (tgt := 22) hx hb dL_isOld_70 (by decide) ?_
          exact ih22 (f + 1) (by omega) (by omega) H locs ls (h.eq (congrArg (lay tc ad gm dz) rfl)) (lv_sub hl [0, 1, 2, 3, 4, 5, 6] rfl)
        · skip
          have hq : ((!decide (X (38, 0, 0, 0) (10 * d + e) = 0)) && allB (fun f => cvr (rw6 (X (39, 0, 0, 0)) (24 * (10 * d + e) + 6 * f)) (rw6 (X (35, 0, 0, 0)) (24 * (10 * o + e) + 6 * f))) (f + 1)) = true := by rw [allB_n c_57, Bool.and_true]; exact c_30
          refine lv_iconst (v := nI 1) hx hb dL_isOld_60 (by decide) ?_
          refine lv_goto (tgt := 65) hx hb dL_isOld_61 (by decide) ?_
          rw [bI_t hq]
          refine lv_istore (lv' := [(6, .int (bI ((!decide (X (38, 0, 0, 0) (10 * d + e) = 0)) && allB (fun f => cvr (rw6 (X (39, 0, 0, 0)) (24 * (10 * d + e) + 6 * f)) (rw6 (X (35, 0, 0, 0)) (24 * (10 * o + e) + 6 * f))) (f + 1)))), (7, .int (nI f)), (0, .ref (ad (35, 0, 0, 0))), (1, .ref (ad (39, 0, 0, 0))), (3, .int (nI d)), (4, .int (nI o)), (5, .int (nI e))]) hx hb dL_isOld_65 hl (by decide) rfl (fun ls hl => ?_)
          refine n_iinc (j := f) (n := 1) (lv' := [(7, .int (nI (f + 1))), (6, .int (bI ((!decide (X (38, 0, 0, 0) (10 * d + e) = 0)) && allB (fun f => cvr (rw6 (X (39, 0, 0, 0)) (24 * (10 * d + e) + 6 * f)) (rw6 (X (35, 0, 0, 0)) (24 * (10 * o + e) + 6 * f))) (f + 1)))), (0, .ref (ad (35, 0, 0, 0))), (1, .ref (ad (39, 0, 0, 0))), (3, .int (nI d)), (4, .int (nI o)), (5, .int (nI e))]) hx hb dL_isOld_67 hl (k := 1) rfl (by decide) (by decide) rfl (fun ls hl => ?_)
          refine lv_goto (tgt := 22) hx hb dL_isOld_70 (by decide) ?_
          exact ih22 (f + 1) (by omega) (by omega) H locs ls (h.eq (congrArg (lay tc ad gm dz) rfl)) (lv_sub hl [0, 1, 2, 3, 4, 5, 6] rfl)
