set_option maxHeartbeats 4000000 in
set_option maxRecDepth 100000 in
theorem m_X2_braid {l : Launch} {D : va_G} {tc : TC} {dz : Nat} {ad : KN → Nat} {Ks : List KN} {gm : GM} (I : Mem) (b e : Nat) (hL : LV gm Ks) (hG : GMok gm) (hb2 : b < 2) (he : e < 10) (d d2 : Nat) (hd : d < 6) (hd2 : d2 < 6) (hne : d ≠ d2) (F month : Int32) (mc : Nat) (hmc : I (4, b, e, 0) 1 = nI mc) (hml : mc ≤ (gm b e).1) : MI l yX2_braid cX2_braid 7 (Option.some ClassFile.FieldType.int) 3 D tc dz ad Ks (lay tc ad gm dz I) [.ref (ad (4, b, e, 0)), .int (nI d), .int (nI d2), .int F, .int month] (fldG (knwM I b e d d2) b e d d2 F 4) (lay tc ad gm dz (ebrM I b e d d2 mc F month)) := by
  intro sz
  have hg := hG b e
  refine x_ofW (by decide +kernel) (Nat.le_of_ble_eq_true rfl) (fun pp ee s mm bel meth cd ls X hr hin hz h hl => ?_)
  subst hz
  obtain ⟨hx, hb, hmaxL, hown, hts⟩ := id X.1
  have hl : lv_has ls 7 [(0, .ref (ad (4, b, e, 0))), (1, .int (nI d)), (2, .int (nI d2)), (3, .int F), (4, .int month)] := hl
  refine lv_aload_n hx hb dX2_braid_0 rfl (lv_at hl 0 rfl) ?_
  refine gf_Entry_copies X h (hL (4, b, e, 0) ⟨by omega, by omega, rfl⟩) q133 dX2_braid_1 ?_
  refine lv_iload_n hx hb dX2_braid_4 rfl (lv_at hl 1 rfl) ?_
  refine ra_copies X h (hL (6, b, e, 0) ⟨by omega, by omega, rfl⟩) (j := d) (by omega) dX2_braid_5 ?_
  refine lv_iconst (v := nI 1) hx hb dX2_braid_6 (by decide) ?_
  refine pf_Copy_known X h (hL (9, b, e, d) ⟨by omega, by omega, by omega⟩) q98 (by decide) (by decide) dX2_braid_7 (fun H locs h => ?_)
  refine lv_aload_n hx hb dX2_braid_10 rfl (lv_at hl 0 rfl) ?_
  refine gf_Entry_copies X h (hL (4, b, e, 0) ⟨by omega, by omega, rfl⟩) q133 dX2_braid_11 ?_
  refine lv_iload_n hx hb dX2_braid_14 rfl (lv_at hl 2 rfl) ?_
  refine ra_copies X h (hL (6, b, e, 0) ⟨by omega, by omega, rfl⟩) (j := d2) (by omega) dX2_braid_15 ?_
  refine lv_iconst (v := nI 1) hx hb dX2_braid_16 (by decide) ?_
  refine pf_Copy_known X h (hL (9, b, e, d2) ⟨by omega, by omega, by omega⟩) q98 (by decide) (by decide) dX2_braid_17 (fun H locs h => ?_)
  have h := h.eq (congrArg (lay tc ad gm dz) (show (sset (sset I (9, b, e, d) (upd (I (9, b, e, d)) 0 (nI 1))) (9, b, e, d2) (upd ((sset I (9, b, e, d) (upd (I (9, b, e, d)) 0 (nI 1))) (9, b, e, d2)) 0 (nI 1))) = (knwM I b e d d2) from (by rw [sset_ne _ _ ((ne4 (Ne.symm hne)) : ((9, b, e, d2) : KN) ≠ (9, b, e, d))]; rfl)))
  refine lv_iconst (v := nI 0) hx hb dX2_braid_20 (by decide) ?_
  refine lv_istore (lv' := [(5, .int (nI 0)), (0, .ref (ad (4, b, e, 0))), (1, .int (nI d)), (2, .int (nI d2)), (3, .int F), (4, .int month)]) hx hb dX2_braid_21 hl (by decide) rfl (fun ls hl => ?_)
  refine lv_iconst (v := nI 0) hx hb dX2_braid_23 (by decide) ?_
  refine lv_istore (lv' := [(6, .int (nI 0)), (5, .int (nI 0)), (0, .ref (ad (4, b, e, 0))), (1, .int (nI d)), (2, .int (nI d2)), (3, .int F), (4, .int month)]) hx hb dX2_braid_24 hl (by decide) rfl (fun ls hl => ?_)
  refine y_loop (D := D) (A := wA ad Ks s.heap.size) (ad := ad) (Ks := Ks) (nL := 7) (fun i : Nat => lay tc ad gm dz (fldM (knwM I b e d d2) b e d d2 F i)) (fun i => [(6, .int (nI i)), (5, .int (fldG (knwM I b e d d2) b e d d2 F i)), (4, .int month), (3, .int F), (2, .int (nI d2)), (1, .int (nI d)), (0, .ref (ad (4, b, e, 0)))]) (fun _ => []) (fun i : Nat => i ≤ 4) (fun i => 4 - i) (fun i hi26 ih26 H locs ls h hl => ?_) 0 (Nat.zero_le _) (h.eq (congrArg (lay tc ad gm dz) rfl)) (lv_sub hl [0, 1, 6, 5, 4, 3, 2] rfl) rfl
  have h : Sx D (wA ad Ks s.heap.size) ad Ks (lay tc ad gm dz (fldM (knwM I b e d d2) b e d d2 F i)) s H locs := h
  have hl : lv_has ls 7 [(6, .int (nI i)), (5, .int (fldG (knwM I b e d d2) b e d d2 F i)), (4, .int month), (3, .int F), (2, .int (nI d2)), (1, .int (nI d)), (0, .ref (ad (4, b, e, 0)))] := hl
  refine lv_iload hx hb dX2_braid_26 (lv_at hl 0 rfl) ?_
  refine lv_iconst (v := nI 4) hx hb dX2_braid_28 (by decide) ?_
  refine n_icmp_ge (tgt := 69) hx hb (by omega) (by omega) dX2_braid_29 (by decide) (fun c_29 => ?_) (fun c_29 => ?_)
  · skip
    obtain rfl : i = 4 := by omega
    refine lv_iconst (v := nI 0) hx hb dX2_braid_69 (by decide) ?_
    refine lv_istore (lv' := [(6, .int (nI 0)), (5, .int (fldG (knwM I b e d d2) b e d d2 F 4)), (4, .int month), (3, .int F), (2, .int (nI d2)), (1, .int (nI d)), (0, .ref (ad (4, b, e, 0)))]) hx hb dX2_braid_70 hl (by decide) rfl (fun ls hl => ?_)
    refine y_loop (D := D) (A := wA ad Ks s.heap.size) (ad := ad) (Ks := Ks) (nL := 7) (fun i : Nat => lay tc ad gm dz (spdM (fldM (knwM I b e d d2) b e d d2 F 4) b e d d2 month i)) (fun i => [(6, .int (nI i)), (5, .int (fldG (knwM I b e d d2) b e d d2 F 4)), (4, .int month), (3, .int F), (2, .int (nI d2)), (1, .int (nI d)), (0, .ref (ad (4, b, e, 0)))]) (fun _ => []) (fun i : Nat => i ≤ mc) (fun i => mc - i) (fun i hi72 ih72 H locs ls h hl => ?_) 0 (Nat.zero_le _) (h.eq (congrArg (lay tc ad gm dz) (spd_0 _ _ _ _ _ _).symm)) (lv_sub hl [0, 1, 2, 3, 4, 5, 6] rfl) rfl
    have h : Sx D (wA ad Ks s.heap.size) ad Ks (lay tc ad gm dz (spdM (fldM (knwM I b e d d2) b e d d2 F 4) b e d d2 month i)) s H locs := h
    have hl : lv_has ls 7 [(6, .int (nI i)), (5, .int (fldG (knwM I b e d d2) b e d d2 F 4)), (4, .int month), (3, .int F), (2, .int (nI d2)), (1, .int (nI d)), (0, .ref (ad (4, b, e, 0)))] := hl
    refine lv_iload hx hb dX2_braid_72 (lv_at hl 0 rfl) ?_
    refine lv_aload_n hx hb dX2_braid_74 rfl (lv_at hl 6 rfl) ?_
    refine gf_Entry_markCount X h (hL (4, b, e, 0) ⟨by omega, by omega, rfl⟩) q130 (v := nI mc) ((congrFun ((spd_ne (by exact Nat.ne_of_beq_eq_false rfl)).trans ((fld_see (by exact Nat.ne_of_beq_eq_false rfl) (by exact Nat.ne_of_beq_eq_false rfl) (by exact Nat.ne_of_beq_eq_false rfl) 4).trans (knw_see (by exact Nat.ne_of_beq_eq_false rfl)))) 1).trans hmc) dX2_braid_75 ?_
    refine n_icmp_ge (tgt := 118) hx hb (by omega) (by omega) dX2_braid_78 (by decide) (fun c_78 => ?_) (fun c_78 => ?_)
    · skip
      have him : mc = i := by omega
      subst him
      refine lv_iload hx hb dX2_braid_118 (lv_at hl 1 rfl) ?_
      exact x_iret X h hr rfl rfl (fun _ _ => rfl) dX2_braid_120
    · skip
      refine lv_iload hx hb dX2_braid_81 (lv_at hl 0 rfl) ?_
      refine lv_aload_n hx hb dX2_braid_83 rfl (lv_at hl 6 rfl) ?_
      refine gf_Entry_marks X h (hL (4, b, e, 0) ⟨by omega, by omega, rfl⟩) q136 dX2_braid_84 ?_
      refine x_doneI X h (x_runV X h (k := (7, b, e, 0)) (m_Jx4a65c_size_8abf5 (spdM (fldM (knwM I b e d d2) b e d d2 F 4) b e d d2 month i) b e hL hG (by omega) (by omega) _) F_Jx4a65c_size_8abf5 q288 q289 q290 (hL (7, b, e, 0) ⟨by omega, by omega, rfl⟩) rfl rfl rfl (by decide) (by decide) ⟨Nat.le_refl _, Nat.le_refl _⟩ hl.1 (Nat.le_of_ble_eq_true rfl) dX2_braid_87 rfl) (fun H locs h => ?_)
      refine n_icmp_ge (tgt := 118) hx hb (by omega) (by omega) dX2_braid_90 (by decide) (fun c_90 => ?_) (fun c_90 => ?_)
      · skip
        have him : mc = i := by omega
        subst him
        refine lv_iload hx hb dX2_braid_118 (lv_at hl 1 rfl) ?_
        exact x_iret X h hr rfl rfl (fun _ _ => rfl) dX2_braid_120
      · skip
        refine lv_aload_n hx hb dX2_braid_93 rfl (lv_at hl 6 rfl) ?_
        refine gf_Entry_marks X h (hL (4, b, e, 0) ⟨by omega, by omega, rfl⟩) q136 dX2_braid_94 ?_
        refine lv_iload hx hb dX2_braid_97 (lv_at hl 0 rfl) ?_
        refine x_doneA X h (x_runV X h (k := (7, b, e, 0)) (m_Jx4a65c_get_915e3 (spdM (fldM (knwM I b e d d2) b e d d2 F 4) b e d d2 month i) b e hL hG (by omega) (by omega) i (by omega) _) F_Jx4a65c_get_915e3 q292 q293 q294 (hL (7, b, e, 0) ⟨by omega, by omega, rfl⟩) rfl rfl rfl (by decide) (by decide) ⟨Nat.le_refl _, Nat.le_refl _⟩ hl.1 (Nat.le_of_ble_eq_true rfl) dX2_braid_99 rfl) (fun H locs h => ?_)
        refine x_cast X h (hL (16, b, e, i) ⟨by omega, by omega, by omega⟩) rfl rfl q306 dX2_braid_102 ?_
        refine lv_iload_n hx hb dX2_braid_105 rfl (lv_at hl 5 rfl) ?_
        refine lv_iload_n hx hb dX2_braid_106 rfl (lv_at hl 4 rfl) ?_
        refine lv_iload hx hb dX2_braid_107 (lv_at hl 2 rfl) ?_
        refine x_doneV X h (x_runV X h (k := (16, b, e, i)) (m_X4_spread (spdM (fldM (knwM I b e d d2) b e d d2 F 4) b e d d2 month i) b e i hL (by omega) (by omega) (by omega) d d2 (by omega) (by omega) month _) F_X4_spread q639 q640 q641 (hL (16, b, e, i) ⟨by omega, by omega, by omega⟩) rfl rfl rfl (by decide) (by decide) ⟨Nat.le_refl _, Nat.le_refl _⟩ hl.1 (Nat.le_of_ble_eq_true rfl) dX2_braid_109 rfl) (fun H locs h => ?_)
        refine n_iinc (j := i) (n := 1) (lv' := [(6, .int (nI (i + 1))), (5, .int (fldG (knwM I b e d d2) b e d d2 F 4)), (4, .int month), (3, .int F), (2, .int (nI d2)), (1, .int (nI d)), (0, .ref (ad (4, b, e, 0)))]) hx hb dX2_braid_112 hl (k := 0) rfl (by decide) (by decide) rfl (fun ls hl => ?_)
        refine lv_goto (tgt := 72) hx hb dX2_braid_115 (by decide) ?_
        have hm : (sset (spdM (fldM (knwM I b e d d2) b e d d2 F 4) b e d d2 month i) (19, b, e, i) (sprd ((spdM (fldM (knwM I b e d d2) b e d d2 F 4) b e d d2 month i) (19, b, e, i)) d d2 month)) = (spdM (fldM (knwM I b e d d2) b e d d2 F 4) b e d d2 month (i + 1)) := by
          exact spd_s _ _ _ _ _ _ _
        exact ih72 (i + 1) (by omega) (by omega) H locs ls (h.eq (congrArg (lay tc ad gm dz) hm)) (lv_sub hl [0, 1, 2, 3, 4, 5, 6] rfl)
  · skip
    refine lv_iload_n hx hb dX2_braid_32 rfl (lv_at hl 3 rfl) ?_
    refine lv_iload hx hb dX2_braid_33 (lv_at hl 0 rfl) ?_
    refine x_doneI X h (x_runSN X h (m_X6_contains (fldM (knwM I b e d d2) b e d d2 F i) F i _) F_X6_contains t365 q366 rfl (by decide) (by decide) ⟨Nat.le_refl _, Nat.le_refl _⟩ hl.1 (Nat.le_of_ble_eq_true rfl) dX2_braid_35 rfl) (fun H locs h => ?_)
    refine b_if_eq (tgt := 63) hx hb dX2_braid_38 (by decide) (fun c_38 => ?_) (fun c_38 => ?_)
    · skip
      have hcn : fldG (knwM I b e d d2) b e d d2 F (i + 1) = fldG (knwM I b e d d2) b e d d2 F i := by rw [fldG, if_neg (by rw [c_38]; decide)]
      rw [← hcn] at hl
      refine n_iinc (j := i) (n := 1) (lv' := [(6, .int (nI (i + 1))), (5, .int (fldG (knwM I b e d d2) b e d d2 F (i + 1))), (4, .int month), (3, .int F), (2, .int (nI d2)), (1, .int (nI d)), (0, .ref (ad (4, b, e, 0)))]) hx hb dX2_braid_63 hl (k := 0) rfl (by decide) (by decide) rfl (fun ls hl => ?_)
      refine lv_goto (tgt := 26) hx hb dX2_braid_66 (by decide) ?_
      have hm : (fldM (knwM I b e d d2) b e d d2 F i) = (fldM (knwM I b e d d2) b e d d2 F (i + 1)) := by
        rw [fldM, if_neg (by rw [c_38]; decide)]
      exact ih26 (i + 1) (by omega) (by omega) H locs ls (h.eq (congrArg (lay tc ad gm dz) hm)) (lv_sub hl [0, 1, 2, 3, 4, 5, 6] rfl)
    · skip
      refine lv_iload hx hb dX2_braid_41 (lv_at hl 1 rfl) ?_
      refine lv_aload_n hx hb dX2_braid_43 rfl (lv_at hl 6 rfl) ?_
      refine gf_Entry_copies X h (hL (4, b, e, 0) ⟨by omega, by omega, rfl⟩) q133 dX2_braid_44 ?_
      refine lv_iload_n hx hb dX2_braid_47 rfl (lv_at hl 5 rfl) ?_
      refine ra_copies X h (hL (6, b, e, 0) ⟨by omega, by omega, rfl⟩) (j := d) (by omega) dX2_braid_48 ?_
      refine lv_aload_n hx hb dX2_braid_49 rfl (lv_at hl 6 rfl) ?_
      refine gf_Entry_copies X h (hL (4, b, e, 0) ⟨by omega, by omega, rfl⟩) q133 dX2_braid_50 ?_
      refine lv_iload_n hx hb dX2_braid_53 rfl (lv_at hl 4 rfl) ?_
      refine ra_copies X h (hL (6, b, e, 0) ⟨by omega, by omega, rfl⟩) (j := d2) (by omega) dX2_braid_54 ?_
      refine lv_iload hx hb dX2_braid_55 (lv_at hl 0 rfl) ?_
      refine x_doneI X h (x_runV X h (k := (9, b, e, d)) (m_X1_braid (fldM (knwM I b e d d2) b e d d2 F i) b e d hL (by omega) (by omega) (by omega) d2 (by omega) hne i (by omega) _) F_X1_braid q630 q631 q632 (hL (9, b, e, d) ⟨by omega, by omega, by omega⟩) rfl rfl rfl (by decide) (by decide) ⟨Nat.le_refl _, Nat.le_refl _⟩ hl.1 (Nat.le_of_ble_eq_true rfl) dX2_braid_57 rfl) (fun H locs h => ?_)
      refine lv_iadd hx hb dX2_braid_60 ?_
      rw [show (fldG (knwM I b e d d2) b e d d2 F i) + (sumI (fun yy => gR ((fldM (knwM I b e d d2) b e d d2 F i) (10, b, e, d)) ((fldM (knwM I b e d d2) b e d d2 F i) (10, b, e, d2)) ((fldM (knwM I b e d d2) b e d d2 F i) (13, b, e, d)) ((fldM (knwM I b e d d2) b e d d2 F i) (13, b, e, d2)) (i * 6 + yy)) 6) = fldG (knwM I b e d d2) b e d d2 F (i + 1) from (by rw [fldG, if_pos c_38])]
      refine lv_istore (lv' := [(5, .int (fldG (knwM I b e d d2) b e d d2 F (i + 1))), (6, .int (nI i)), (4, .int month), (3, .int F), (2, .int (nI d2)), (1, .int (nI d)), (0, .ref (ad (4, b, e, 0)))]) hx hb dX2_braid_61 hl (by decide) rfl (fun ls hl => ?_)
      refine n_iinc (j := i) (n := 1) (lv' := [(6, .int (nI (i + 1))), (5, .int (fldG (knwM I b e d d2) b e d d2 F (i + 1))), (4, .int month), (3, .int F), (2, .int (nI d2)), (1, .int (nI d)), (0, .ref (ad (4, b, e, 0)))]) hx hb dX2_braid_63 hl (k := 1) rfl (by decide) (by decide) rfl (fun ls hl => ?_)
      refine lv_goto (tgt := 26) hx hb dX2_braid_66 (by decide) ?_
      have hm : (braidM (i * 6) (i * 6 + 6) (fldM (knwM I b e d d2) b e d d2 F i) b e d d2) = (fldM (knwM I b e d d2) b e d d2 F (i + 1)) := by
        rw [fldM, if_pos c_38]
      exact ih26 (i + 1) (by omega) (by omega) H locs ls (h.eq (congrArg (lay tc ad gm dz) hm)) (lv_sub hl [0, 1, 2, 3, 4, 5, 6] rfl)

set_option maxHeartbeats 4000000 in
set_option maxRecDepth 100000 in
theorem m_X2_mergeOn {l : Launch} {D : va_G} {tc : TC} {dz : Nat} {ad : KN → Nat} {Ks : List KN} {gm : GM} (I : Mem) (b e : Nat) (hL : LV gm Ks) (hG : GMok gm) (hb2 : b < 2) (he : e < 10) (d d2 : Nat) (hd : d < 6) (hd2 : d2 < 6) (hne : d ≠ d2) (month : Int32) (mc : Nat) (hmc : I (4, b, e, 0) 1 = nI mc) (hml : mc ≤ (gm b e).1) : MI l yX2_mergeOn cX2_mergeOn 6 (Option.some ClassFile.FieldType.int) 4 D tc dz ad Ks (lay tc ad gm dz I) [.ref (ad (4, b, e, 0)), .int (nI d), .int (nI d2), .int month] (mgeR I b e d d2) (lay tc ad gm dz (mgeM I b e d d2 mc month)) := by
  intro sz
  have hg := hG b e
  refine x_ofW (by decide +kernel) (Nat.le_of_ble_eq_true rfl) (fun pp ee s mm bel meth cd ls X hr hin hz h hl => ?_)
  subst hz
  obtain ⟨hx, hb, hmaxL, hown, hts⟩ := id X.1
  have hl : lv_has ls 6 [(0, .ref (ad (4, b, e, 0))), (1, .int (nI d)), (2, .int (nI d2)), (3, .int month)] := hl
  refine lv_aload_n hx hb dX2_mergeOn_0 rfl (lv_at hl 0 rfl) ?_
  refine lv_iload_n hx hb dX2_mergeOn_1 rfl (lv_at hl 1 rfl) ?_
  refine x_doneI X h (x_runV X h (k := (4, b, e, 0)) (m_X2_fieldsFor I b e hL hG (by omega) (by omega) d (by omega) _) F_X2_fieldsFor q343 q344 q345 (hL (4, b, e, 0) ⟨by omega, by omega, rfl⟩) rfl rfl rfl (by decide) (by decide) ⟨Nat.le_refl _, Nat.le_refl _⟩ hl.1 (Nat.le_of_ble_eq_true rfl) dX2_mergeOn_2 rfl) (fun H locs h => ?_)
  refine lv_aload_n hx hb dX2_mergeOn_5 rfl (lv_at hl 0 rfl) ?_
  refine lv_iload_n hx hb dX2_mergeOn_6 rfl (lv_at hl 2 rfl) ?_
  refine x_doneI X h (x_runV X h (k := (4, b, e, 0)) (m_X2_fieldsFor I b e hL hG (by omega) (by omega) d2 (by omega) _) F_X2_fieldsFor q343 q344 q345 (hL (4, b, e, 0) ⟨by omega, by omega, rfl⟩) rfl rfl rfl (by decide) (by decide) ⟨Nat.le_refl _, Nat.le_refl _⟩ hl.1 (Nat.le_of_ble_eq_true rfl) dX2_mergeOn_7 rfl) (fun H locs h => ?_)
  refine lv_iand hx hb dX2_mergeOn_10 ?_
  refine lv_istore (lv' := [(4, .int ((ff I b e d) &&& (ff I b e d2))), (0, .ref (ad (4, b, e, 0))), (1, .int (nI d)), (2, .int (nI d2)), (3, .int month)]) hx hb dX2_mergeOn_11 hl (by decide) rfl (fun ls hl => ?_)
  refine lv_iload hx hb dX2_mergeOn_13 (lv_at hl 0 rfl) ?_
  refine lv_if_ne (tgt := 20) hx hb dX2_mergeOn_15 (by decide) (fun c_15 => ?_) (fun c_15 => ?_)
  · skip
    refine y_join (D := D) (A := wA ad Ks s.heap.size) (ad := ad) (Ks := Ks) (nL := 6) 100 (fun x : Int32 => lay tc ad gm dz (mg1M I b e d d2 mc month)) (fun x => [(5, .int x), (1, .int (nI d)), (2, .int (nI d2)), (0, .ref (ad (4, b, e, 0)))]) (fun x => []) (fun x => x = mg1R I b e d d2) (fun jn100 => ?_) (fun x hj100 H locs ls h hl => ?_)
    · skip
      refine lv_iconst (v := nI 0) hx hb dX2_mergeOn_20 (by decide) ?_
      refine lv_istore (lv' := [(5, .int (nI 0)), (4, .int ((ff I b e d) &&& (ff I b e d2))), (0, .ref (ad (4, b, e, 0))), (1, .int (nI d)), (2, .int (nI d2)), (3, .int month)]) hx hb dX2_mergeOn_21 hl (by decide) rfl (fun ls hl => ?_)
      refine lv_aload_n hx hb dX2_mergeOn_23 rfl (lv_at hl 2 rfl) ?_
      refine lv_iload_n hx hb dX2_mergeOn_24 rfl (lv_at hl 3 rfl) ?_
      refine lv_iload_n hx hb dX2_mergeOn_25 rfl (lv_at hl 4 rfl) ?_
      refine x_doneI X h (x_runV X h (k := (4, b, e, 0)) (m_X2_isOutdated I b e hL hG (by omega) (by omega) d d2 (by omega) (by omega) _) F_X2_isOutdated q616 q617 q618 (hL (4, b, e, 0) ⟨by omega, by omega, rfl⟩) rfl rfl rfl (by decide) (by decide) ⟨Nat.le_refl _, Nat.le_refl _⟩ hl.1 (Nat.le_of_ble_eq_true rfl) dX2_mergeOn_26 rfl) (fun H locs h => ?_)
      refine b_if_eq (tgt := 44) hx hb dX2_mergeOn_29 (by decide) (fun c_29 => ?_) (fun c_29 => ?_)
      · skip
        refine lv_aload_n hx hb dX2_mergeOn_44 rfl (lv_at hl 2 rfl) ?_
        refine lv_iload_n hx hb dX2_mergeOn_45 rfl (lv_at hl 4 rfl) ?_
        refine lv_iload_n hx hb dX2_mergeOn_46 rfl (lv_at hl 3 rfl) ?_
        refine x_doneI X h (x_runV X h (k := (4, b, e, 0)) (m_X2_isOutdated I b e hL hG (by omega) (by omega) d2 d (by omega) (by omega) _) F_X2_isOutdated q616 q617 q618 (hL (4, b, e, 0) ⟨by omega, by omega, rfl⟩) rfl rfl rfl (by decide) (by decide) ⟨Nat.le_refl _, Nat.le_refl _⟩ hl.1 (Nat.le_of_ble_eq_true rfl) dX2_mergeOn_47 rfl) (fun H locs h => ?_)
        refine b_if_eq (tgt := 65) hx hb dX2_mergeOn_50 (by decide) (fun c_50 => ?_) (fun c_50 => ?_)
        · skip
          refine lv_aload_n hx hb dX2_mergeOn_65 rfl (lv_at hl 2 rfl) ?_
          refine gf_Entry_copies X h (hL (4, b, e, 0) ⟨by omega, by omega, rfl⟩) q133 dX2_mergeOn_66 ?_
          refine lv_iload_n hx hb dX2_mergeOn_69 rfl (lv_at hl 3 rfl) ?_
          refine ra_copies X h (hL (6, b, e, 0) ⟨by omega, by omega, rfl⟩) (j := d) (by omega) dX2_mergeOn_70 ?_
          refine gf_Copy_known X h (hL (9, b, e, d) ⟨by omega, by omega, by omega⟩) q98 (v := I (9, b, e, d) 0) rfl dX2_mergeOn_71 ?_
          refine lv_if_ne (tgt := 89) hx hb dX2_mergeOn_74 (by decide) (fun c_74 => ?_) (fun c_74 => ?_)
          · skip
            refine lv_aload_n hx hb dX2_mergeOn_89 rfl (lv_at hl 2 rfl) ?_
            refine lv_iload_n hx hb dX2_mergeOn_90 rfl (lv_at hl 3 rfl) ?_
            refine lv_iload_n hx hb dX2_mergeOn_91 rfl (lv_at hl 4 rfl) ?_
            refine lv_iload hx hb dX2_mergeOn_92 (lv_at hl 1 rfl) ?_
            refine lv_iload_n hx hb dX2_mergeOn_94 rfl (lv_at hl 5 rfl) ?_
            refine x_doneI X h (x_runV X h (k := (4, b, e, 0)) (m_X2_braid I b e hL hG (by omega) (by omega) d d2 (by omega) (by omega) hne ((ff I b e d) &&& (ff I b e d2)) month mc hmc hml _) F_X2_braid q626 q627 q628 (hL (4, b, e, 0) ⟨by omega, by omega, rfl⟩) rfl rfl rfl (by decide) (by decide) ⟨Nat.le_refl _, Nat.le_refl _⟩ hl.1 (Nat.le_of_ble_eq_true rfl) dX2_mergeOn_95 rfl) (fun H locs h => ?_)
            refine lv_istore (lv' := [(5, .int (fldG (knwM I b e d d2) b e d d2 ((ff I b e d) &&& (ff I b e d2)) 4)), (4, .int ((ff I b e d) &&& (ff I b e d2))), (0, .ref (ad (4, b, e, 0))), (1, .int (nI d)), (2, .int (nI d2)), (3, .int month)]) hx hb dX2_mergeOn_98 hl (by decide) rfl (fun ls hl => ?_)
            exact jn100 _ (by show fldG (knwM I b e d d2) b e d d2 ((ff I b e d) &&& (ff I b e d2)) 4 = mg1R I b e d d2; simp only [mg1R, ↓reduceIte, Bool.false_eq_true, c_29, c_50, c_74]) H locs ls (h.eq (congrArg (lay tc ad gm dz) (by simp only [mg1M, ↓reduceIte, Bool.false_eq_true, c_29, c_50, c_74]))) (lv_sub hl [0, 3, 4, 2] rfl)
          · skip
            refine lv_aload_n hx hb dX2_mergeOn_77 rfl (lv_at hl 2 rfl) ?_
            refine gf_Entry_copies X h (hL (4, b, e, 0) ⟨by omega, by omega, rfl⟩) q133 dX2_mergeOn_78 ?_
            refine lv_iload_n hx hb dX2_mergeOn_81 rfl (lv_at hl 4 rfl) ?_
            refine ra_copies X h (hL (6, b, e, 0) ⟨by omega, by omega, rfl⟩) (j := d2) (by omega) dX2_mergeOn_82 ?_
            refine gf_Copy_known X h (hL (9, b, e, d2) ⟨by omega, by omega, by omega⟩) q98 (v := I (9, b, e, d2) 0) rfl dX2_mergeOn_83 ?_
            refine lv_if_eq (tgt := 100) hx hb dX2_mergeOn_86 (by decide) (fun c_86 => ?_) (fun c_86 => ?_)
            · skip
              exact jn100 _ (by show nI 0 = mg1R I b e d d2; simp only [mg1R, ↓reduceIte, Bool.false_eq_true, c_29, c_50, c_74, c_86]) H locs ls (h.eq (congrArg (lay tc ad gm dz) (by simp only [mg1M, ↓reduceIte, Bool.false_eq_true, c_29, c_50, c_74, c_86]))) (lv_sub hl [0, 3, 4, 2] rfl)
            · skip
              refine lv_aload_n hx hb dX2_mergeOn_89 rfl (lv_at hl 2 rfl) ?_
              refine lv_iload_n hx hb dX2_mergeOn_90 rfl (lv_at hl 3 rfl) ?_
              refine lv_iload_n hx hb dX2_mergeOn_91 rfl (lv_at hl 4 rfl) ?_
              refine lv_iload hx hb dX2_mergeOn_92 (lv_at hl 1 rfl) ?_
              refine lv_iload_n hx hb dX2_mergeOn_94 rfl (lv_at hl 5 rfl) ?_
              refine x_doneI X h (x_runV X h (k := (4, b, e, 0)) (m_X2_braid I b e hL hG (by omega) (by omega) d d2 (by omega) (by omega) hne ((ff I b e d) &&& (ff I b e d2)) month mc hmc hml _) F_X2_braid q626 q627 q628 (hL (4, b, e, 0) ⟨by omega, by omega, rfl⟩) rfl rfl rfl (by decide) (by decide) ⟨Nat.le_refl _, Nat.le_refl _⟩ hl.1 (Nat.le_of_ble_eq_true rfl) dX2_mergeOn_95 rfl) (fun H locs h => ?_)
              refine lv_istore (lv' := [(5, .int (fldG (knwM I b e d d2) b e d d2 ((ff I b e d) &&& (ff I b e d2)) 4)), (4, .int ((ff I b e d) &&& (ff I b e d2))), (0, .ref (ad (4, b, e, 0))), (1, .int (nI d)), (2, .int (nI d2)), (3, .int month)]) hx hb dX2_mergeOn_98 hl (by decide) rfl (fun ls hl => ?_)
              exact jn100 _ (by show fldG (knwM I b e d d2) b e d d2 ((ff I b e d) &&& (ff I b e d2)) 4 = mg1R I b e d d2; simp only [mg1R, ↓reduceIte, Bool.false_eq_true, c_29, c_50, c_74, c_86]) H locs ls (h.eq (congrArg (lay tc ad gm dz) (by simp only [mg1M, ↓reduceIte, Bool.false_eq_true, c_29, c_50, c_74, c_86]))) (lv_sub hl [0, 3, 4, 2] rfl)
        · skip
          refine lv_aload_n hx hb dX2_mergeOn_53 rfl (lv_at hl 2 rfl) ?_
          refine lv_iload_n hx hb dX2_mergeOn_54 rfl (lv_at hl 4 rfl) ?_
          refine x_doneV X h (x_runV X h (k := (4, b, e, 0)) (m_X2_forget I b e hL hG (by omega) (by omega) d2 (by omega) mc hmc hml _) F_X2_forget q620 q621 q622 (hL (4, b, e, 0) ⟨by omega, by omega, rfl⟩) rfl rfl rfl (by decide) (by decide) ⟨Nat.le_refl _, Nat.le_refl _⟩ hl.1 (Nat.le_of_ble_eq_true rfl) dX2_mergeOn_55 rfl) (fun H locs h => ?_)
          refine lv_bipush (v := nI 100) hx hb dX2_mergeOn_58 (by decide) ?_
          refine lv_istore (lv' := [(5, .int (nI 100)), (4, .int ((ff I b e d) &&& (ff I b e d2))), (0, .ref (ad (4, b, e, 0))), (1, .int (nI d)), (2, .int (nI d2)), (3, .int month)]) hx hb dX2_mergeOn_60 hl (by decide) rfl (fun ls hl => ?_)
          refine lv_goto (tgt := 100) hx hb dX2_mergeOn_62 (by decide) ?_
          exact jn100 _ (by show nI 100 = mg1R I b e d d2; simp only [mg1R, ↓reduceIte, Bool.false_eq_true, c_29, c_50]) H locs ls (h.eq (congrArg (lay tc ad gm dz) (by simp only [mg1M, ↓reduceIte, Bool.false_eq_true, c_29, c_50]))) (lv_sub hl [0, 3, 4, 2] rfl)
      · skip
        refine lv_aload_n hx hb dX2_mergeOn_32 rfl (lv_at hl 2 rfl) ?_
        refine lv_iload_n hx hb dX2_mergeOn_33 rfl (lv_at hl 3 rfl) ?_
        refine x_doneV X h (x_runV X h (k := (4, b, e, 0)) (m_X2_forget I b e hL hG (by omega) (by omega) d (by omega) mc hmc hml _) F_X2_forget q620 q621 q622 (hL (4, b, e, 0) ⟨by omega, by omega, rfl⟩) rfl rfl rfl (by decide) (by decide) ⟨Nat.le_refl _, Nat.le_refl _⟩ hl.1 (Nat.le_of_ble_eq_true rfl) dX2_mergeOn_34 rfl) (fun H locs h => ?_)
        refine lv_bipush (v := nI 100) hx hb dX2_mergeOn_37 (by decide) ?_
        refine lv_istore (lv' := [(5, .int (nI 100)), (4, .int ((ff I b e d) &&& (ff I b e d2))), (0, .ref (ad (4, b, e, 0))), (1, .int (nI d)), (2, .int (nI d2)), (3, .int month)]) hx hb dX2_mergeOn_39 hl (by decide) rfl (fun ls hl => ?_)
        refine lv_goto (tgt := 100) hx hb dX2_mergeOn_41 (by decide) ?_
        exact jn100 _ (by show nI 100 = mg1R I b e d d2; simp only [mg1R, ↓reduceIte, Bool.false_eq_true, c_29]) H locs ls (h.eq (congrArg (lay tc ad gm dz) (by simp only [mg1M, ↓reduceIte, Bool.false_eq_true, c_29]))) (lv_sub hl [0, 3, 4, 2] rfl)
    · have h : Sx D (wA ad Ks s.heap.size) ad Ks (lay tc ad gm dz (mg1M I b e d d2 mc month)) s H locs := h
      have hl : lv_has ls 6 [(5, .int x), (1, .int (nI d)), (2, .int (nI d2)), (0, .ref (ad (4, b, e, 0)))] := hl
      subst hj100
      refine lv_aload_n hx hb dX2_mergeOn_100 rfl (lv_at hl 3 rfl) ?_
      refine gf_Entry_copies X h (hL (4, b, e, 0) ⟨by omega, by omega, rfl⟩) q133 dX2_mergeOn_101 ?_
      refine lv_iload_n hx hb dX2_mergeOn_104 rfl (lv_at hl 1 rfl) ?_
      refine ra_copies X h (hL (6, b, e, 0) ⟨by omega, by omega, rfl⟩) (j := d) (by omega) dX2_mergeOn_105 ?_
      refine gf_Copy_known X h (hL (9, b, e, d) ⟨by omega, by omega, by omega⟩) q98 (v := (mg1M I b e d d2 mc month) (9, b, e, d) 0) rfl dX2_mergeOn_106 ?_
      refine lv_if_ne (tgt := 139) hx hb dX2_mergeOn_109 (by decide) (fun c_109 => ?_) (fun c_109 => ?_)
      · skip
        refine lv_iload hx hb dX2_mergeOn_139 (lv_at hl 0 rfl) ?_
        refine x_iret X h hr rfl ?_ (fun k _ => congrFun (congrArg (lay tc ad gm dz) ?_) k) dX2_mergeOn_141
        · rw [mgeR, if_neg c_15]
        · rw [mgeM, if_neg c_15]
          simp only [mg2M, ↓reduceIte, c_109]
      · skip
        refine lv_aload_n hx hb dX2_mergeOn_112 rfl (lv_at hl 3 rfl) ?_
        refine gf_Entry_copies X h (hL (4, b, e, 0) ⟨by omega, by omega, rfl⟩) q133 dX2_mergeOn_113 ?_
        refine lv_iload_n hx hb dX2_mergeOn_116 rfl (lv_at hl 2 rfl) ?_
        refine ra_copies X h (hL (6, b, e, 0) ⟨by omega, by omega, rfl⟩) (j := d2) (by omega) dX2_mergeOn_117 ?_
        refine gf_Copy_known X h (hL (9, b, e, d2) ⟨by omega, by omega, by omega⟩) q98 (v := (mg1M I b e d d2 mc month) (9, b, e, d2) 0) rfl dX2_mergeOn_118 ?_
        refine lv_if_ne (tgt := 139) hx hb dX2_mergeOn_121 (by decide) (fun c_121 => ?_) (fun c_121 => ?_)
        · skip
          refine lv_iload hx hb dX2_mergeOn_139 (lv_at hl 0 rfl) ?_
          refine x_iret X h hr rfl ?_ (fun k _ => congrFun (congrArg (lay tc ad gm dz) ?_) k) dX2_mergeOn_141
          · rw [mgeR, if_neg c_15]
          · rw [mgeM, if_neg c_15]
            simp only [mg2M, ↓reduceIte, c_109, c_121]
        · skip
          refine lv_aload_n hx hb dX2_mergeOn_124 rfl (lv_at hl 3 rfl) ?_
          refine gf_Entry_copies X h (hL (4, b, e, 0) ⟨by omega, by omega, rfl⟩) q133 dX2_mergeOn_125 ?_
          refine lv_iload_n hx hb dX2_mergeOn_128 rfl (lv_at hl 1 rfl) ?_
          refine ra_copies X h (hL (6, b, e, 0) ⟨by omega, by omega, rfl⟩) (j := d) (by omega) dX2_mergeOn_129 ?_
          refine lv_aload_n hx hb dX2_mergeOn_130 rfl (lv_at hl 3 rfl) ?_
          refine gf_Entry_copies X h (hL (4, b, e, 0) ⟨by omega, by omega, rfl⟩) q133 dX2_mergeOn_131 ?_
          refine lv_iload_n hx hb dX2_mergeOn_134 rfl (lv_at hl 2 rfl) ?_
          refine ra_copies X h (hL (6, b, e, 0) ⟨by omega, by omega, rfl⟩) (j := d2) (by omega) dX2_mergeOn_135 ?_
          refine x_doneV X h (x_runV X h (k := (9, b, e, d)) (m_X1_exchangeNotes (mg1M I b e d d2 mc month) b e d hL (by omega) (by omega) (by omega) d2 (by omega) hne _) F_X1_exchangeNotes q644 q645 q646 (hL (9, b, e, d) ⟨by omega, by omega, by omega⟩) rfl rfl rfl (by decide) (by decide) ⟨Nat.le_refl _, Nat.le_refl _⟩ hl.1 (Nat.le_of_ble_eq_true rfl) dX2_mergeOn_136 rfl) (fun H locs h => ?_)
          refine lv_iload hx hb dX2_mergeOn_139 (lv_at hl 0 rfl) ?_
          refine x_iret X h hr rfl ?_ (fun k _ => congrFun (congrArg (lay tc ad gm dz) ?_) k) dX2_mergeOn_141
          · rw [mgeR, if_neg c_15]
          · rw [mgeM, if_neg c_15]
            simp only [mg2M, ↓reduceIte, c_109, c_121]
  · skip
    refine lv_iconst (v := nI 0) hx hb dX2_mergeOn_18 (by decide) ?_
    refine x_iret X h hr rfl ?_ (fun k _ => congrFun (congrArg (lay tc ad gm dz) ?_) k) dX2_mergeOn_19
    · simp only [mgeR, c_15, ↓reduceIte]
    · simp only [mgeM, c_15, ↓reduceIte]

set_option maxHeartbeats 4000000 in
set_option maxRecDepth 100000 in
theorem m_X2_comparedFields {l : Launch} {D : va_G} {tc : TC} {dz : Nat} {ad : KN → Nat} {Ks : List KN} {gm : GM} (I : Mem) (b e : Nat) (hL : LV gm Ks) (hG : GMok gm) (hb2 : b < 2) (he : e < 10) (d d2 : Nat) (hd : d < 6) (hd2 : d2 < 6) (mc : Nat) (hmc : I (4, b, e, 0) 1 = nI mc) (hml : mc ≤ (gm b e).1) : MI l yX2_comparedFields cX2_comparedFields 3 (Option.some ClassFile.FieldType.int) 5 D tc dz ad Ks (lay tc ad gm dz I) [.ref (ad (4, b, e, 0)), .int (nI d), .int (nI d2)] (cmpF I b e d d2 mc) (lay tc ad gm dz I) := by
  intro sz
  have hg := hG b e
  refine x_ofW (by decide +kernel) (Nat.le_of_ble_eq_true rfl) (fun pp ee s mm bel meth cd ls X hr hin hz h hl => ?_)
  subst hz
  obtain ⟨hx, hb, hmaxL, hown, hts⟩ := id X.1
  have hl : lv_has ls 3 [(0, .ref (ad (4, b, e, 0))), (1, .int (nI d)), (2, .int (nI d2))] := hl
  refine lv_aload_n hx hb dX2_comparedFields_0 rfl (lv_at hl 0 rfl) ?_
  refine lv_iload_n hx hb dX2_comparedFields_1 rfl (lv_at hl 1 rfl) ?_
  refine x_doneI X h (x_runV X h (k := (4, b, e, 0)) (m_X2_stateOn I b e hL hG (by omega) (by omega) d (by omega) mc hmc hml _) F_X2_stateOn q342 q281 q282 (hL (4, b, e, 0) ⟨by omega, by omega, rfl⟩) rfl rfl rfl (by decide) (by decide) ⟨Nat.le_refl _, Nat.le_refl _⟩ hl.1 (Nat.le_of_ble_eq_true rfl) dX2_comparedFields_2 rfl) (fun H locs h => ?_)
  have hs1 := sto_le I b e d mc
  refine lv_iconst (v := nI 1) hx hb dX2_comparedFields_5 (by decide) ?_
  refine n_icmp_eq (tgt := 20) hx hb (by omega) (by omega) dX2_comparedFields_6 (by decide) (fun c_6 => ?_) (fun c_6 => ?_)
  · skip
    refine lv_aload_n hx hb dX2_comparedFields_20 rfl (lv_at hl 0 rfl) ?_
    refine lv_iload_n hx hb dX2_comparedFields_21 rfl (lv_at hl 1 rfl) ?_
    refine x_doneI X h (x_runV X h (k := (4, b, e, 0)) (m_X2_fieldsFor I b e hL hG (by omega) (by omega) d (by omega) _) F_X2_fieldsFor q343 q344 q345 (hL (4, b, e, 0) ⟨by omega, by omega, rfl⟩) rfl rfl rfl (by decide) (by decide) ⟨Nat.le_refl _, Nat.le_refl _⟩ hl.1 (Nat.le_of_ble_eq_true rfl) dX2_comparedFields_22 rfl) (fun H locs h => ?_)
    refine lv_aload_n hx hb dX2_comparedFields_25 rfl (lv_at hl 0 rfl) ?_
    refine lv_iload_n hx hb dX2_comparedFields_26 rfl (lv_at hl 2 rfl) ?_
    refine x_doneI X h (x_runV X h (k := (4, b, e, 0)) (m_X2_fieldsFor I b e hL hG (by omega) (by omega) d2 (by omega) _) F_X2_fieldsFor q343 q344 q345 (hL (4, b, e, 0) ⟨by omega, by omega, rfl⟩) rfl rfl rfl (by decide) (by decide) ⟨Nat.le_refl _, Nat.le_refl _⟩ hl.1 (Nat.le_of_ble_eq_true rfl) dX2_comparedFields_27 rfl) (fun H locs h => ?_)
    refine lv_iand hx hb dX2_comparedFields_30 ?_
    refine x_iret X h hr rfl ?_ (fun _ _ => rfl) dX2_comparedFields_31
    · simp only [cmpF, ↓reduceIte, c_6]
  · skip
    refine lv_aload_n hx hb dX2_comparedFields_9 rfl (lv_at hl 0 rfl) ?_
    refine lv_iload_n hx hb dX2_comparedFields_10 rfl (lv_at hl 2 rfl) ?_
    refine x_doneI X h (x_runV X h (k := (4, b, e, 0)) (m_X2_stateOn I b e hL hG (by omega) (by omega) d2 (by omega) mc hmc hml _) F_X2_stateOn q342 q281 q282 (hL (4, b, e, 0) ⟨by omega, by omega, rfl⟩) rfl rfl rfl (by decide) (by decide) ⟨Nat.le_refl _, Nat.le_refl _⟩ hl.1 (Nat.le_of_ble_eq_true rfl) dX2_comparedFields_11 rfl) (fun H locs h => ?_)
    have hs2 := sto_le I b e d2 mc
    refine lv_iconst (v := nI 1) hx hb dX2_comparedFields_14 (by decide) ?_
    refine n_icmp_eq (tgt := 20) hx hb (by omega) (by omega) dX2_comparedFields_15 (by decide) (fun c_15 => ?_) (fun c_15 => ?_)
    · skip
      refine lv_aload_n hx hb dX2_comparedFields_20 rfl (lv_at hl 0 rfl) ?_
      refine lv_iload_n hx hb dX2_comparedFields_21 rfl (lv_at hl 1 rfl) ?_
      refine x_doneI X h (x_runV X h (k := (4, b, e, 0)) (m_X2_fieldsFor I b e hL hG (by omega) (by omega) d (by omega) _) F_X2_fieldsFor q343 q344 q345 (hL (4, b, e, 0) ⟨by omega, by omega, rfl⟩) rfl rfl rfl (by decide) (by decide) ⟨Nat.le_refl _, Nat.le_refl _⟩ hl.1 (Nat.le_of_ble_eq_true rfl) dX2_comparedFields_22 rfl) (fun H locs h => ?_)
      refine lv_aload_n hx hb dX2_comparedFields_25 rfl (lv_at hl 0 rfl) ?_
      refine lv_iload_n hx hb dX2_comparedFields_26 rfl (lv_at hl 2 rfl) ?_
      refine x_doneI X h (x_runV X h (k := (4, b, e, 0)) (m_X2_fieldsFor I b e hL hG (by omega) (by omega) d2 (by omega) _) F_X2_fieldsFor q343 q344 q345 (hL (4, b, e, 0) ⟨by omega, by omega, rfl⟩) rfl rfl rfl (by decide) (by decide) ⟨Nat.le_refl _, Nat.le_refl _⟩ hl.1 (Nat.le_of_ble_eq_true rfl) dX2_comparedFields_27 rfl) (fun H locs h => ?_)
      refine lv_iand hx hb dX2_comparedFields_30 ?_
      refine x_iret X h hr rfl ?_ (fun _ _ => rfl) dX2_comparedFields_31
      · simp only [cmpF, ↓reduceIte, c_6, c_15]
    · skip
      refine lv_iconst (v := nI 0) hx hb dX2_comparedFields_18 (by decide) ?_
      refine x_iret X h hr rfl ?_ (fun _ _ => rfl) dX2_comparedFields_19
      · simp only [cmpF, ↓reduceIte, c_6, c_15]

set_option maxHeartbeats 4000000 in
set_option maxRecDepth 100000 in
theorem m_X2_countSame {l : Launch} {D : va_G} {tc : TC} {dz : Nat} {ad : KN → Nat} {Ks : List KN} {gm : GM} (I : Mem) (b e : Nat) (hL : LV gm Ks) (hG : GMok gm) (hb2 : b < 2) (he : e < 10) (d d2 : Nat) (hd : d < 6) (hd2 : d2 < 6) (mc : Nat) (hmc : I (4, b, e, 0) 1 = nI mc) (hml : mc ≤ (gm b e).1) : MI l yX2_countSame cX2_countSame 6 (Option.some ClassFile.FieldType.int) 6 D tc dz ad Ks (lay tc ad gm dz I) [.ref (ad (4, b, e, 0)), .int (nI d), .int (nI d2)] (nI (cnS I b e d d2 mc)) (lay tc ad gm dz I) := by
  intro sz
  have hg := hG b e
  refine x_ofW (by decide +kernel) (Nat.le_of_ble_eq_true rfl) (fun pp ee s mm bel meth cd ls X hr hin hz h hl => ?_)
  subst hz
  obtain ⟨hx, hb, hmaxL, hown, hts⟩ := id X.1
  have hl : lv_has ls 6 [(0, .ref (ad (4, b, e, 0))), (1, .int (nI d)), (2, .int (nI d2))] := hl
  refine lv_aload_n hx hb dX2_countSame_0 rfl (lv_at hl 0 rfl) ?_
  refine lv_iload_n hx hb dX2_countSame_1 rfl (lv_at hl 1 rfl) ?_
  refine lv_iload_n hx hb dX2_countSame_2 rfl (lv_at hl 2 rfl) ?_
  refine x_doneI X h (x_runV X h (k := (4, b, e, 0)) (m_X2_comparedFields I b e hL hG (by omega) (by omega) d d2 (by omega) (by omega) mc hmc hml _) F_X2_comparedFields q364 q339 q340 (hL (4, b, e, 0) ⟨by omega, by omega, rfl⟩) rfl rfl rfl (by decide) (by decide) ⟨Nat.le_refl _, Nat.le_refl _⟩ hl.1 (Nat.le_of_ble_eq_true rfl) dX2_countSame_3 rfl) (fun H locs h => ?_)
  refine lv_istore_n (lv' := [(3, .int (cmpF I b e d d2 mc)), (0, .ref (ad (4, b, e, 0))), (1, .int (nI d)), (2, .int (nI d2))]) hx hb dX2_countSame_6 rfl hl (by decide) rfl (fun ls hl => ?_)
  refine lv_iconst (v := nI 0) hx hb dX2_countSame_7 (by decide) ?_
  refine lv_istore (lv' := [(4, .int (nI 0)), (3, .int (cmpF I b e d d2 mc)), (0, .ref (ad (4, b, e, 0))), (1, .int (nI d)), (2, .int (nI d2))]) hx hb dX2_countSame_8 hl (by decide) rfl (fun ls hl => ?_)
  refine lv_iconst (v := nI 0) hx hb dX2_countSame_10 (by decide) ?_
  refine lv_istore (lv' := [(5, .int (nI 0)), (4, .int (nI 0)), (3, .int (cmpF I b e d d2 mc)), (0, .ref (ad (4, b, e, 0))), (1, .int (nI d)), (2, .int (nI d2))]) hx hb dX2_countSame_11 hl (by decide) rfl (fun ls hl => ?_)
  refine y_loop (D := D) (A := wA ad Ks s.heap.size) (ad := ad) (Ks := Ks) (nL := 6) (fun i : Nat => lay tc ad gm dz I) (fun i => [(5, .int (nI i)), (4, .int (nI (cntN (fun f => bit (cmpF I b e d d2 mc) f && sameV (I (10, b, e, d)) (I (10, b, e, d2)) f) i))), (3, .int (cmpF I b e d d2 mc)), (2, .int (nI d2)), (1, .int (nI d)), (0, .ref (ad (4, b, e, 0)))]) (fun _ => []) (fun i : Nat => i ≤ 4) (fun i => 4 - i) (fun i hi13 ih13 H locs ls h hl => ?_) 0 (Nat.zero_le _) (h.eq (congrArg (lay tc ad gm dz) rfl)) (lv_sub hl [0, 1, 2, 5, 4, 3] rfl) rfl
  have h : Sx D (wA ad Ks s.heap.size) ad Ks (lay tc ad gm dz I) s H locs := h
  have hl : lv_has ls 6 [(5, .int (nI i)), (4, .int (nI (cntN (fun f => bit (cmpF I b e d d2 mc) f && sameV (I (10, b, e, d)) (I (10, b, e, d2)) f) i))), (3, .int (cmpF I b e d d2 mc)), (2, .int (nI d2)), (1, .int (nI d)), (0, .ref (ad (4, b, e, 0)))] := hl
  refine lv_iload hx hb dX2_countSame_13 (lv_at hl 0 rfl) ?_
  refine lv_iconst (v := nI 4) hx hb dX2_countSame_15 (by decide) ?_
  refine n_icmp_ge (tgt := 57) hx hb (by omega) (by omega) dX2_countSame_16 (by decide) (fun c_16 => ?_) (fun c_16 => ?_)
  · skip
    obtain rfl : i = 4 := by omega
    refine lv_iload hx hb dX2_countSame_57 (lv_at hl 1 rfl) ?_
    exact x_iret X h hr rfl rfl (fun _ _ => rfl) dX2_countSame_59
  · skip
    refine lv_iload_n hx hb dX2_countSame_19 rfl (lv_at hl 2 rfl) ?_
    refine lv_iload hx hb dX2_countSame_20 (lv_at hl 0 rfl) ?_
    refine x_doneI X h (x_runSN X h (m_X6_contains I (cmpF I b e d d2 mc) i _) F_X6_contains t365 q366 rfl (by decide) (by decide) ⟨Nat.le_refl _, Nat.le_refl _⟩ hl.1 (Nat.le_of_ble_eq_true rfl) dX2_countSame_22 rfl) (fun H locs h => ?_)
    refine b_if_eq (tgt := 51) hx hb dX2_countSame_25 (by decide) (fun c_25 => ?_) (fun c_25 => ?_)
    · skip
      have hcn := cntN_n (p := (fun f => bit (cmpF I b e d d2 mc) f && sameV (I (10, b, e, d)) (I (10, b, e, d2)) f)) (n := i) (by simp only [c_25, Bool.false_and])
      rw [← hcn] at hl
      refine n_iinc (j := i) (n := 1) (lv' := [(5, .int (nI (i + 1))), (4, .int (nI (cntN (fun f => bit (cmpF I b e d d2 mc) f && sameV (I (10, b, e, d)) (I (10, b, e, d2)) f) (i + 1)))), (3, .int (cmpF I b e d d2 mc)), (2, .int (nI d2)), (1, .int (nI d)), (0, .ref (ad (4, b, e, 0)))]) hx hb dX2_countSame_51 hl (k := 0) rfl (by decide) (by decide) rfl (fun ls hl => ?_)
      refine lv_goto (tgt := 13) hx hb dX2_countSame_54 (by decide) ?_
      exact ih13 (i + 1) (by omega) (by omega) H locs ls (h.eq (congrArg (lay tc ad gm dz) rfl)) (lv_sub hl [0, 1, 2, 3, 4, 5] rfl)
    · skip
      refine lv_aload_n hx hb dX2_countSame_28 rfl (lv_at hl 5 rfl) ?_
      refine gf_Entry_copies X h (hL (4, b, e, 0) ⟨by omega, by omega, rfl⟩) q133 dX2_countSame_29 ?_
      refine lv_iload_n hx hb dX2_countSame_32 rfl (lv_at hl 4 rfl) ?_
      refine ra_copies X h (hL (6, b, e, 0) ⟨by omega, by omega, rfl⟩) (j := d) (by omega) dX2_countSame_33 ?_
      refine lv_aload_n hx hb dX2_countSame_34 rfl (lv_at hl 5 rfl) ?_
      refine gf_Entry_copies X h (hL (4, b, e, 0) ⟨by omega, by omega, rfl⟩) q133 dX2_countSame_35 ?_
      refine lv_iload_n hx hb dX2_countSame_38 rfl (lv_at hl 3 rfl) ?_
      refine ra_copies X h (hL (6, b, e, 0) ⟨by omega, by omega, rfl⟩) (j := d2) (by omega) dX2_countSame_39 ?_
      refine lv_iload hx hb dX2_countSame_40 (lv_at hl 0 rfl) ?_
      refine x_doneI X h (x_runV X h (k := (9, b, e, d)) (m_X1_hasSameValues I b e d hL (by omega) (by omega) (by omega) d2 (by omega) i (by omega) _) F_X1_hasSameValues q368 q369 q370 (hL (9, b, e, d) ⟨by omega, by omega, by omega⟩) rfl rfl rfl (by decide) (by decide) ⟨Nat.le_refl _, Nat.le_refl _⟩ hl.1 (Nat.le_of_ble_eq_true rfl) dX2_countSame_42 rfl) (fun H locs h => ?_)
      refine b_if_eq (tgt := 51) hx hb dX2_countSame_45 (by decide) (fun c_45 => ?_) (fun c_45 => ?_)
      · skip
        have hcn := cntN_n (p := (fun f => bit (cmpF I b e d d2 mc) f && sameV (I (10, b, e, d)) (I (10, b, e, d2)) f)) (n := i) (by simp only [c_25, c_45, Bool.and_false])
        rw [← hcn] at hl
        refine n_iinc (j := i) (n := 1) (lv' := [(5, .int (nI (i + 1))), (4, .int (nI (cntN (fun f => bit (cmpF I b e d d2 mc) f && sameV (I (10, b, e, d)) (I (10, b, e, d2)) f) (i + 1)))), (3, .int (cmpF I b e d d2 mc)), (2, .int (nI d2)), (1, .int (nI d)), (0, .ref (ad (4, b, e, 0)))]) hx hb dX2_countSame_51 hl (k := 0) rfl (by decide) (by decide) rfl (fun ls hl => ?_)
        refine lv_goto (tgt := 13) hx hb dX2_countSame_54 (by decide) ?_
        exact ih13 (i + 1) (by omega) (by omega) H locs ls (h.eq (congrArg (lay tc ad gm dz) rfl)) (lv_sub hl [0, 1, 2, 3, 4, 5] rfl)
      · skip
        have hcn := cntN_y (p := (fun f => bit (cmpF I b e d d2 mc) f && sameV (I (10, b, e, d)) (I (10, b, e, d2)) f)) (n := i) (by simp only [c_25, c_45, Bool.and_self])
        refine lv_iinc (v := nI (cntN (fun f => bit (cmpF I b e d d2 mc) f && sameV (I (10, b, e, d)) (I (10, b, e, d2)) f) (i + 1))) (lv' := [(4, .int (nI (cntN (fun f => bit (cmpF I b e d d2 mc) f && sameV (I (10, b, e, d)) (I (10, b, e, d2)) f) (i + 1)))), (5, .int (nI i)), (3, .int (cmpF I b e d d2 mc)), (2, .int (nI d2)), (1, .int (nI d)), (0, .ref (ad (4, b, e, 0)))]) hx hb dX2_countSame_48 hl (k := 1) rfl (by rw [hcn]; exact nI_1 _) (by decide) rfl (fun ls hl => ?_)
        refine n_iinc (j := i) (n := 1) (lv' := [(5, .int (nI (i + 1))), (4, .int (nI (cntN (fun f => bit (cmpF I b e d d2 mc) f && sameV (I (10, b, e, d)) (I (10, b, e, d2)) f) (i + 1)))), (3, .int (cmpF I b e d d2 mc)), (2, .int (nI d2)), (1, .int (nI d)), (0, .ref (ad (4, b, e, 0)))]) hx hb dX2_countSame_51 hl (k := 1) rfl (by decide) (by decide) rfl (fun ls hl => ?_)
        refine lv_goto (tgt := 13) hx hb dX2_countSame_54 (by decide) ?_
        exact ih13 (i + 1) (by omega) (by omega) H locs ls (h.eq (congrArg (lay tc ad gm dz) rfl)) (lv_sub hl [0, 1, 2, 3, 4, 5] rfl)

set_option maxHeartbeats 4000000 in
set_option maxRecDepth 100000 in
theorem m_X2_clear {l : Launch} {D : va_G} {tc : TC} {dz : Nat} {ad : KN → Nat} {Ks : List KN} {gm : GM} (I : Mem) (b e : Nat) (hL : LV gm Ks) (hG : GMok gm) (hb2 : b < 2) (he : e < 10) : MV l yX2_clear cX2_clear 2 3 D tc dz ad Ks (lay tc ad gm dz I) [.ref (ad (4, b, e, 0))] (lay tc ad gm dz (ecleM I b e 6)) := by
  intro sz
  refine x_ofW (by decide +kernel) (Nat.le_of_ble_eq_true rfl) (fun pp ee s mm bel meth cd ls X hr hin hz h hl => ?_)
  subst hz
  obtain ⟨hx, hb, hmaxL, hown, hts⟩ := id X.1
  have hl : lv_has ls 2 [(0, .ref (ad (4, b, e, 0)))] := hl
  refine lv_aload_n hx hb dX2_clear_0 rfl (lv_at hl 0 rfl) ?_
  refine lv_iconst (v := nI 0) hx hb dX2_clear_1 (by decide) ?_
  refine pf_Entry_owner X h (hL (4, b, e, 0) ⟨by omega, by omega, rfl⟩) q127 dX2_clear_2 (fun H locs h => ?_)
  refine lv_aload_n hx hb dX2_clear_5 rfl (lv_at hl 0 rfl) ?_
  refine lv_iconst (v := nI 0) hx hb dX2_clear_6 (by decide) ?_
  refine pf_Entry_markCount X h (hL (4, b, e, 0) ⟨by omega, by omega, rfl⟩) q130 dX2_clear_7 (fun H locs h => ?_)
  have h := h.eq (congrArg (lay tc ad gm dz) (show (sset (sset I (4, b, e, 0) (upd (I (4, b, e, 0)) 0 (nI 0))) (4, b, e, 0) (upd ((sset I (4, b, e, 0) (upd (I (4, b, e, 0)) 0 (nI 0))) (4, b, e, 0)) 1 (nI 0))) = (sset I (4, b, e, 0) (upd (upd (I (4, b, e, 0)) 0 0) 1 0)) from (by rw [sset_sset, sset_eq]; rfl)))
  refine lv_iconst (v := nI 0) hx hb dX2_clear_10 (by decide) ?_
  refine lv_istore_n (lv' := [(1, .int (nI 0)), (0, .ref (ad (4, b, e, 0)))]) hx hb dX2_clear_11 rfl hl (by decide) rfl (fun ls hl => ?_)
  refine y_loop (D := D) (A := wA ad Ks s.heap.size) (ad := ad) (Ks := Ks) (nL := 2) (fun i : Nat => lay tc ad gm dz (sset (sset I (4, b, e, 0) (upd (upd (I (4, b, e, 0)) 0 0) 1 0)) (5, b, e, 0) (pf i (fun _ => 0) ((sset I (4, b, e, 0) (upd (upd (I (4, b, e, 0)) 0 0) 1 0)) (5, b, e, 0))))) (fun i => [(1, .int (nI i)), (0, .ref (ad (4, b, e, 0)))]) (fun _ => []) (fun i : Nat => i ≤ 3) (fun i => 3 - i) (fun i hi12 ih12 H locs ls h hl => ?_) 0 (Nat.zero_le _) (h.eq (congrArg (lay tc ad gm dz) (pf_at0 (sset I (4, b, e, 0) (upd (upd (I (4, b, e, 0)) 0 0) 1 0)) (5, b, e, 0) _))) (lv_sub hl [0, 1] rfl) rfl
  have h : Sx D (wA ad Ks s.heap.size) ad Ks (lay tc ad gm dz (sset (sset I (4, b, e, 0) (upd (upd (I (4, b, e, 0)) 0 0) 1 0)) (5, b, e, 0) (pf i (fun _ => 0) ((sset I (4, b, e, 0) (upd (upd (I (4, b, e, 0)) 0 0) 1 0)) (5, b, e, 0))))) s H locs := h
  have hl : lv_has ls 2 [(1, .int (nI i)), (0, .ref (ad (4, b, e, 0)))] := hl
  refine lv_iload_n hx hb dX2_clear_12 rfl (lv_at hl 0 rfl) ?_
  refine lv_iconst (v := nI 3) hx hb dX2_clear_13 (by decide) ?_
  refine n_icmp_ge (tgt := 30) hx hb (by omega) (by omega) dX2_clear_14 (by decide) (fun c_14 => ?_) (fun c_14 => ?_)
  · skip
    obtain rfl : i = 3 := by omega
    have h := h.pfEnd (fun _ => rfl)
    have h : Sx D (wA ad Ks s.heap.size) ad Ks (lay tc ad gm dz (ecleM I b e 0)) s H locs := h
    refine lv_iconst (v := nI 0) hx hb dX2_clear_30 (by decide) ?_
    refine lv_istore_n (lv' := [(1, .int (nI 0)), (0, .ref (ad (4, b, e, 0)))]) hx hb dX2_clear_31 rfl hl (by decide) rfl (fun ls hl => ?_)
    refine y_loop (D := D) (A := wA ad Ks s.heap.size) (ad := ad) (Ks := Ks) (nL := 2) (fun i : Nat => lay tc ad gm dz (ecleM I b e i)) (fun i => [(1, .int (nI i)), (0, .ref (ad (4, b, e, 0)))]) (fun _ => []) (fun i : Nat => i ≤ 6) (fun i => 6 - i) (fun i hi32 ih32 H locs ls h hl => ?_) 0 (Nat.zero_le _) (h.eq (congrArg (lay tc ad gm dz) rfl)) (lv_sub hl [0, 1] rfl) rfl
    have h : Sx D (wA ad Ks s.heap.size) ad Ks (lay tc ad gm dz (ecleM I b e i)) s H locs := h
    have hl : lv_has ls 2 [(1, .int (nI i)), (0, .ref (ad (4, b, e, 0)))] := hl
    refine lv_iload_n hx hb dX2_clear_32 rfl (lv_at hl 0 rfl) ?_
    refine lv_bipush (v := nI 6) hx hb dX2_clear_33 (by decide) ?_
    refine n_icmp_ge (tgt := 53) hx hb (by omega) (by omega) dX2_clear_35 (by decide) (fun c_35 => ?_) (fun c_35 => ?_)
    · skip
      obtain rfl : i = 6 := by omega
      exact x_vret X h hr (fun _ _ => rfl) dX2_clear_53
    · skip
      refine lv_aload_n hx hb dX2_clear_38 rfl (lv_at hl 1 rfl) ?_
      refine gf_Entry_copies X h (hL (4, b, e, 0) ⟨by omega, by omega, rfl⟩) q133 dX2_clear_39 ?_
      refine lv_iload_n hx hb dX2_clear_42 rfl (lv_at hl 0 rfl) ?_
      refine ra_copies X h (hL (6, b, e, 0) ⟨by omega, by omega, rfl⟩) (j := i) (by omega) dX2_clear_43 ?_
      refine x_doneV X h (x_runV X h (k := (9, b, e, i)) (m_X1_clear (ecleM I b e i) b e i hL (by omega) (by omega) (by omega)  _) F_X1_clear q700 q701 q702 (hL (9, b, e, i) ⟨by omega, by omega, by omega⟩) rfl rfl rfl (by decide) (by decide) ⟨Nat.le_refl _, Nat.le_refl _⟩ hl.1 (Nat.le_of_ble_eq_true rfl) dX2_clear_44 rfl) (fun H locs h => ?_)
      refine n_iinc (j := i) (n := 1) (lv' := [(1, .int (nI (i + 1))), (0, .ref (ad (4, b, e, 0)))]) hx hb dX2_clear_47 hl (k := 0) rfl (by decide) (by decide) rfl (fun ls hl => ?_)
      refine lv_goto (tgt := 32) hx hb dX2_clear_50 (by decide) ?_
      exact ih32 (i + 1) (by omega) (by omega) H locs ls (h.eq (congrArg (lay tc ad gm dz) rfl)) (lv_sub hl [0, 1] rfl)
  · skip
    refine lv_aload_n hx hb dX2_clear_17 rfl (lv_at hl 1 rfl) ?_
    refine gf_Entry_shared X h (hL (4, b, e, 0) ⟨by omega, by omega, rfl⟩) q131 dX2_clear_18 ?_
    refine lv_iload_n hx hb dX2_clear_21 rfl (lv_at hl 0 rfl) ?_
    refine lv_iconst (v := nI 0) hx hb dX2_clear_22 (by decide) ?_
    refine y_ast X h (fun _ => rfl) (by decide) (hL (5, b, e, 0) ⟨by omega, by omega, rfl⟩) (by omega) dX2_clear_23 (fun H locs h => ?_)
    refine n_iinc (j := i) (n := 1) (lv' := [(1, .int (nI (i + 1))), (0, .ref (ad (4, b, e, 0)))]) hx hb dX2_clear_24 hl (k := 0) rfl (by decide) (by decide) rfl (fun ls hl => ?_)
    refine lv_goto (tgt := 12) hx hb dX2_clear_27 (by decide) ?_
    exact ih12 (i + 1) (by omega) (by omega) H locs ls (h.eq (congrArg (lay tc ad gm dz) (pf_step (sset I (4, b, e, 0) (upd (upd (I (4, b, e, 0)) 0 0) 1 0)) (5, b, e, 0) rfl))) (lv_sub hl [0, 1] rfl)
