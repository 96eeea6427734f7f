set_option maxHeartbeats 4000000 in
set_option maxRecDepth 100000 in
theorem m_X2_fieldsFor {l : Launch} {D : va_G} {tc : TC} {dz : Nat} {ad : KN → Nat} {Ks : List KN} {gm : GM} (I : Mem) (b e : Nat) (hL : LV gm Ks) (hG : GMok gm) (hb2 : b < 2) (he : e < 10) (d : Nat) (hd : d < 6) : MI l yX2_fieldsFor cX2_fieldsFor 3 (Option.some ClassFile.FieldType.int) 1 D tc dz ad Ks (lay tc ad gm dz I) [.ref (ad (4, b, e, 0)), .int (nI d)] (ff I b e d) (lay tc ad gm dz I) := by
  intro sz
  refine x_ofW (by decide +kernel) (Nat.le_of_ble_eq_true rfl) (fun pp ee s mm bel meth cd ls X hr hin hz h hl => ?_)
  subst hz
  obtain ⟨hx, hb, hmaxL, hown, hts⟩ := id X.1
  have hl : lv_has ls 3 [(0, .ref (ad (4, b, e, 0))), (1, .int (nI d))] := hl
  refine lv_iload_n hx hb dX2_fieldsFor_0 rfl (lv_at hl 1 rfl) ?_
  refine x_doneI X h (x_runSN X h (m_X6_personOf I d (by omega) _) F_X6_personOf t347 q348 rfl (by decide) (by decide) ⟨Nat.le_refl _, Nat.le_refl _⟩ hl.1 (Nat.le_of_ble_eq_true rfl) dX2_fieldsFor_1 rfl) (fun H locs h => ?_)
  refine lv_istore_n (lv' := [(2, .int (nI (d / 2))), (0, .ref (ad (4, b, e, 0))), (1, .int (nI d))]) hx hb dX2_fieldsFor_4 rfl hl (by decide) rfl (fun ls hl => ?_)
  refine lv_iload_n hx hb dX2_fieldsFor_5 rfl (lv_at hl 0 rfl) ?_
  refine lv_aload_n hx hb dX2_fieldsFor_6 rfl (lv_at hl 1 rfl) ?_
  refine gf_Entry_owner X h (hL (4, b, e, 0) ⟨by omega, by omega, rfl⟩) q127 (v := I (4, b, e, 0) 0) rfl dX2_fieldsFor_7 ?_
  refine lv_icmp_ne (tgt := 18) hx hb dX2_fieldsFor_10 (by decide) (fun c_10 => ?_) (fun c_10 => ?_)
  · skip
    refine lv_aload_n hx hb dX2_fieldsFor_18 rfl (lv_at hl 1 rfl) ?_
    refine gf_Entry_shared X h (hL (4, b, e, 0) ⟨by omega, by omega, rfl⟩) q131 dX2_fieldsFor_19 ?_
    refine lv_iload_n hx hb dX2_fieldsFor_22 rfl (lv_at hl 0 rfl) ?_
    refine y_ald X h (fun _ => rfl) (by decide) (hL (5, b, e, 0) ⟨by omega, by omega, rfl⟩) (by omega) (v := I (5, b, e, 0) (d / 2)) rfl dX2_fieldsFor_23 ?_
    refine x_iret X h hr rfl ?_ (fun _ _ => rfl) dX2_fieldsFor_24
    · simp only [ff, ↓reduceIte, c_10]
  · skip
    refine lv_bipush (v := nI 15) hx hb dX2_fieldsFor_13 (by decide) ?_
    refine lv_goto (tgt := 24) hx hb dX2_fieldsFor_15 (by decide) ?_
    refine x_iret X h hr rfl ?_ (fun _ _ => rfl) dX2_fieldsFor_24
    · simp only [ff, ↓reduceIte, c_10]

set_option maxHeartbeats 4000000 in
set_option maxRecDepth 100000 in
theorem m_X2_isCovered {l : Launch} {D : va_G} {tc : TC} {dz : Nat} {ad : KN → Nat} {Ks : List KN} {gm : GM} (I : Mem) (b e : Nat) (hL : LV gm Ks) (hG : GMok gm) (hb2 : b < 2) (he : e < 10) (d : Nat) (hd : d < 6) (mc : Nat) (hmc : I (4, b, e, 0) 1 = nI mc) (hml : mc ≤ (gm b e).1) : MI l yX2_isCovered cX2_isCovered 4 (Option.some ClassFile.FieldType.boolean) 3 D tc dz ad Ks (lay tc ad gm dz I) [.ref (ad (4, b, e, 0)), .int (nI d)] (bI (cvd I b e d mc)) (lay tc ad gm dz I) := by
  intro sz
  have hg := hG b e
  refine x_ofW (by decide +kernel) (Nat.le_of_ble_eq_true rfl) (fun pp ee s mm bel meth cd ls X hr hin hz h hl => ?_)
  subst hz
  obtain ⟨hx, hb, hmaxL, hown, hts⟩ := id X.1
  have hl : lv_has ls 4 [(0, .ref (ad (4, b, e, 0))), (1, .int (nI d))] := hl
  refine lv_iconst (v := nI 0) hx hb dX2_isCovered_0 (by decide) ?_
  refine lv_istore_n (lv' := [(2, .int (nI 0)), (0, .ref (ad (4, b, e, 0))), (1, .int (nI d))]) hx hb dX2_isCovered_1 rfl hl (by decide) rfl (fun ls hl => ?_)
  refine y_loop (D := D) (A := wA ad Ks s.heap.size) (ad := ad) (Ks := Ks) (nL := 4) (fun i : Nat => lay tc ad gm dz I) (fun i => [(2, .int (nI i)), (1, .int (nI d)), (0, .ref (ad (4, b, e, 0)))]) (fun _ => []) (fun i : Nat => i ≤ mc ∧ (∀ j, j < i → mcv I b e d j = false)) (fun i => mc - i) (fun i hi2 ih2 H locs ls h hl => ?_) 0 ⟨Nat.zero_le _, fun j hj => absurd hj (Nat.not_lt_zero j)⟩ (h.eq (congrArg (lay tc ad gm dz) rfl)) (lv_sub hl [0, 2, 1] rfl) rfl
  have h : Sx D (wA ad Ks s.heap.size) ad Ks (lay tc ad gm dz I) s H locs := h
  have hl : lv_has ls 4 [(2, .int (nI i)), (1, .int (nI d)), (0, .ref (ad (4, b, e, 0)))] := hl
  obtain ⟨hi2, hj2⟩ := hi2
  refine lv_iload_n hx hb dX2_isCovered_2 rfl (lv_at hl 0 rfl) ?_
  refine lv_aload_n hx hb dX2_isCovered_3 rfl (lv_at hl 2 rfl) ?_
  refine gf_Entry_markCount X h (hL (4, b, e, 0) ⟨by omega, by omega, rfl⟩) q130 (v := nI mc) hmc dX2_isCovered_4 ?_
  refine n_icmp_ge (tgt := 65) hx hb (by omega) (by omega) dX2_isCovered_7 (by decide) (fun c_7 => ?_) (fun c_7 => ?_)
  · skip
    refine lv_iconst (v := nI 0) hx hb dX2_isCovered_65 (by decide) ?_
    refine x_iret X h hr (by decide) ?_ (fun _ _ => rfl) dX2_isCovered_66
    · rw [show cvd I b e d mc = false from anyB_f (fun j hj => hj2 j (by omega))]; rfl
  · skip
    refine lv_iload_n hx hb dX2_isCovered_10 rfl (lv_at hl 0 rfl) ?_
    refine lv_aload_n hx hb dX2_isCovered_11 rfl (lv_at hl 2 rfl) ?_
    refine gf_Entry_marks X h (hL (4, b, e, 0) ⟨by omega, by omega, rfl⟩) q136 dX2_isCovered_12 ?_
    refine x_doneI X h (x_runV X h (k := (7, b, e, 0)) (m_Jx4a65c_size_8abf5 I b e hL hG (by omega) (by omega) _) F_Jx4a65c_size_8abf5 q288 q289 q290 (hL (7, b, e, 0) ⟨by omega, by omega, rfl⟩) rfl rfl rfl (by decide) (by decide) ⟨Nat.le_refl _, Nat.le_refl _⟩ hl.1 (Nat.le_of_ble_eq_true rfl) dX2_isCovered_15 rfl) (fun H locs h => ?_)
    refine n_icmp_ge (tgt := 65) hx hb (by omega) (by omega) dX2_isCovered_18 (by decide) (fun c_18 => ?_) (fun c_18 => ?_)
    · skip
      refine lv_iconst (v := nI 0) hx hb dX2_isCovered_65 (by decide) ?_
      refine x_iret X h hr (by decide) ?_ (fun _ _ => rfl) dX2_isCovered_66
      · rw [show cvd I b e d mc = false from anyB_f (fun j hj => hj2 j (by omega))]; rfl
    · skip
      refine lv_aload_n hx hb dX2_isCovered_21 rfl (lv_at hl 2 rfl) ?_
      refine gf_Entry_marks X h (hL (4, b, e, 0) ⟨by omega, by omega, rfl⟩) q136 dX2_isCovered_22 ?_
      refine lv_iload_n hx hb dX2_isCovered_25 rfl (lv_at hl 0 rfl) ?_
      refine x_doneA X h (x_runV X h (k := (7, b, e, 0)) (m_Jx4a65c_get_915e3 I b e hL hG (by omega) (by omega) i (by omega) _) F_Jx4a65c_get_915e3 q292 q293 q294 (hL (7, b, e, 0) ⟨by omega, by omega, rfl⟩) rfl rfl rfl (by decide) (by decide) ⟨Nat.le_refl _, Nat.le_refl _⟩ hl.1 (Nat.le_of_ble_eq_true rfl) dX2_isCovered_26 rfl) (fun H locs h => ?_)
      refine x_cast X h (hL (16, b, e, i) ⟨by omega, by omega, by omega⟩) rfl rfl q306 dX2_isCovered_29 ?_
      refine lv_astore_n (lv' := [(3, .ref (ad (16, b, e, i))), (2, .int (nI i)), (1, .int (nI d)), (0, .ref (ad (4, b, e, 0)))]) hx hb dX2_isCovered_32 rfl hl (by decide) rfl (fun ls hl => ?_)
      refine lv_aload_n hx hb dX2_isCovered_33 rfl (lv_at hl 0 rfl) ?_
      refine lv_iload_n hx hb dX2_isCovered_34 rfl (lv_at hl 2 rfl) ?_
      refine x_doneI X h (x_runV X h (k := (16, b, e, i)) (m_X4_isKnownOn I b e i hL (by omega) (by omega) (by omega) d (by omega) _) F_X4_isKnownOn q307 q308 q309 (hL (16, b, e, i) ⟨by omega, by omega, by omega⟩) rfl rfl rfl (by decide) (by decide) ⟨Nat.le_refl _, Nat.le_refl _⟩ hl.1 (Nat.le_of_ble_eq_true rfl) dX2_isCovered_35 rfl) (fun H locs h => ?_)
      refine b_if_eq (tgt := 59) hx hb dX2_isCovered_38 (by decide) (fun c_38 => ?_) (fun c_38 => ?_)
      · skip
        refine n_iinc (j := i) (n := 1) (lv' := [(2, .int (nI (i + 1))), (3, .ref (ad (16, b, e, i))), (1, .int (nI d)), (0, .ref (ad (4, b, e, 0)))]) hx hb dX2_isCovered_59 hl (k := 1) rfl (by decide) (by decide) rfl (fun ls hl => ?_)
        refine lv_goto (tgt := 2) hx hb dX2_isCovered_62 (by decide) ?_
        exact ih2 (i + 1) ⟨by omega, lt_s hj2 (by show mcv I b e d i = false; simp only [mcv, c_38, Bool.false_and, Bool.true_and, Bool.and_false])⟩ (by omega) H locs ls (h.eq (congrArg (lay tc ad gm dz) rfl)) (lv_sub hl [0, 2, 3] rfl)
      · skip
        refine lv_aload_n hx hb dX2_isCovered_41 rfl (lv_at hl 0 rfl) ?_
        refine gf_Mark_seen X h (hL (16, b, e, i) ⟨by omega, by omega, by omega⟩) q503 dX2_isCovered_42 ?_
        refine lv_aload_n hx hb dX2_isCovered_45 rfl (lv_at hl 3 rfl) ?_
        refine gf_Entry_copies X h (hL (4, b, e, 0) ⟨by omega, by omega, rfl⟩) q133 dX2_isCovered_46 ?_
        refine lv_iload_n hx hb dX2_isCovered_49 rfl (lv_at hl 2 rfl) ?_
        refine ra_copies X h (hL (6, b, e, 0) ⟨by omega, by omega, rfl⟩) (j := d) (by omega) dX2_isCovered_50 ?_
        refine x_doneI X h (x_runV X h (k := (17, b, e, i)) (m_X5_coverAll I (17, b, e, i) (18, b, e, i) (fun _ => rfl) (fun _ => rfl) (hL (17, b, e, i) ⟨by omega, by omega, by omega⟩) (hL (18, b, e, i) ⟨by omega, by omega, by omega⟩) b e d hL (by omega) (by omega) (by omega) _) F_X5_coverAll q311 q312 q313 (hL (17, b, e, i) ⟨by omega, by omega, by omega⟩) rfl rfl rfl (by decide) (by decide) ⟨Nat.le_refl _, Nat.le_refl _⟩ hl.1 (Nat.le_of_ble_eq_true rfl) dX2_isCovered_51 rfl) (fun H locs h => ?_)
        refine b_if_eq (tgt := 59) hx hb dX2_isCovered_54 (by decide) (fun c_54 => ?_) (fun c_54 => ?_)
        · skip
          refine n_iinc (j := i) (n := 1) (lv' := [(2, .int (nI (i + 1))), (3, .ref (ad (16, b, e, i))), (1, .int (nI d)), (0, .ref (ad (4, b, e, 0)))]) hx hb dX2_isCovered_59 hl (k := 1) rfl (by decide) (by decide) rfl (fun ls hl => ?_)
          refine lv_goto (tgt := 2) hx hb dX2_isCovered_62 (by decide) ?_
          exact ih2 (i + 1) ⟨by omega, lt_s hj2 (by show mcv I b e d i = false; simp only [mcv, c_38, c_54, Bool.false_and, Bool.true_and, Bool.and_false])⟩ (by omega) H locs ls (h.eq (congrArg (lay tc ad gm dz) rfl)) (lv_sub hl [0, 2, 3] rfl)
        · skip
          refine lv_iconst (v := nI 1) hx hb dX2_isCovered_57 (by decide) ?_
          refine x_iret X h hr (by decide) ?_ (fun _ _ => rfl) dX2_isCovered_58
          · rw [show cvd I b e d mc = true from anyB_t c_7 (by simp only [mcv, c_38, c_54, Bool.and_self])]; rfl

set_option maxHeartbeats 4000000 in
set_option maxRecDepth 100000 in
theorem m_X2_stateOn {l : Launch} {D : va_G} {tc : TC} {dz : Nat} {ad : KN → Nat} {Ks : List KN} {gm : GM} (I : Mem) (b e : Nat) (hL : LV gm Ks) (hG : GMok gm) (hb2 : b < 2) (he : e < 10) (d : Nat) (hd : d < 6) (mc : Nat) (hmc : I (4, b, e, 0) 1 = nI mc) (hml : mc ≤ (gm b e).1) : MI l yX2_stateOn cX2_stateOn 3 (Option.some ClassFile.FieldType.int) 4 D tc dz ad Ks (lay tc ad gm dz I) [.ref (ad (4, b, e, 0)), .int (nI d)] (nI (sto I b e d mc)) (lay tc ad gm dz I) := by
  intro sz
  have hg := hG b e
  refine x_ofW (by decide +kernel) (Nat.le_of_ble_eq_true rfl) (fun pp ee s mm bel meth cd ls X hr hin hz h hl => ?_)
  subst hz
  obtain ⟨hx, hb, hmaxL, hown, hts⟩ := id X.1
  have hl : lv_has ls 3 [(0, .ref (ad (4, b, e, 0))), (1, .int (nI d))] := hl
  refine lv_aload_n hx hb dX2_stateOn_0 rfl (lv_at hl 0 rfl) ?_
  refine gf_Entry_copies X h (hL (4, b, e, 0) ⟨by omega, by omega, rfl⟩) q133 dX2_stateOn_1 ?_
  refine lv_iload_n hx hb dX2_stateOn_4 rfl (lv_at hl 1 rfl) ?_
  refine ra_copies X h (hL (6, b, e, 0) ⟨by omega, by omega, rfl⟩) (j := d) (by omega) dX2_stateOn_5 ?_
  refine lv_astore_n (lv' := [(2, .ref (ad (9, b, e, d))), (0, .ref (ad (4, b, e, 0))), (1, .int (nI d))]) hx hb dX2_stateOn_6 rfl hl (by decide) rfl (fun ls hl => ?_)
  refine lv_aload_n hx hb dX2_stateOn_7 rfl (lv_at hl 0 rfl) ?_
  refine gf_Copy_known X h (hL (9, b, e, d) ⟨by omega, by omega, by omega⟩) q98 (v := I (9, b, e, d) 0) rfl dX2_stateOn_8 ?_
  refine lv_if_ne (tgt := 16) hx hb dX2_stateOn_11 (by decide) (fun c_11 => ?_) (fun c_11 => ?_)
  · skip
    refine lv_aload_n hx hb dX2_stateOn_16 rfl (lv_at hl 1 rfl) ?_
    refine lv_iload_n hx hb dX2_stateOn_17 rfl (lv_at hl 2 rfl) ?_
    refine x_doneI X h (x_runV X h (k := (4, b, e, 0)) (m_X2_isCovered I b e hL hG (by omega) (by omega) d (by omega) mc hmc hml _) F_X2_isCovered q284 q285 q286 (hL (4, b, e, 0) ⟨by omega, by omega, rfl⟩) rfl rfl rfl (by decide) (by decide) ⟨Nat.le_refl _, Nat.le_refl _⟩ hl.1 (Nat.le_of_ble_eq_true rfl) dX2_stateOn_18 rfl) (fun H locs h => ?_)
    refine b_if_eq (tgt := 26) hx hb dX2_stateOn_21 (by decide) (fun c_21 => ?_) (fun c_21 => ?_)
    · skip
      refine lv_aload_n hx hb dX2_stateOn_26 rfl (lv_at hl 0 rfl) ?_
      refine x_doneI X h (x_runV X h (k := (9, b, e, d)) (m_X1_countAllValues I b e d hL (by omega) (by omega) (by omega)  _) F_X1_countAllValues q315 q316 q317 (hL (9, b, e, d) ⟨by omega, by omega, by omega⟩) rfl rfl rfl (by decide) (by decide) ⟨Nat.le_refl _, Nat.le_refl _⟩ hl.1 (Nat.le_of_ble_eq_true rfl) dX2_stateOn_27 rfl) (fun H locs h => ?_)
      have hcv := cvA_le (I (10, b, e, d))
      refine n_if_ne (tgt := 37) hx hb (by omega) dX2_stateOn_30 (by decide) (fun c_30 => ?_) (fun c_30 => ?_)
      · skip
        refine lv_iconst (v := nI 1) hx hb dX2_stateOn_37 (by decide) ?_
        refine x_iret X h hr rfl ?_ (fun _ _ => rfl) dX2_stateOn_38
        · simp only [sto, ↓reduceIte, Bool.false_eq_true, c_11, c_21, Nat.ne_of_gt c_30]
      · skip
        refine lv_iconst (v := nI 3) hx hb dX2_stateOn_33 (by decide) ?_
        refine lv_goto (tgt := 38) hx hb dX2_stateOn_34 (by decide) ?_
        refine x_iret X h hr rfl ?_ (fun _ _ => rfl) dX2_stateOn_38
        · simp only [sto, ↓reduceIte, Bool.false_eq_true, c_11, c_21, c_30]
    · skip
      refine lv_iconst (v := nI 2) hx hb dX2_stateOn_24 (by decide) ?_
      refine x_iret X h hr rfl ?_ (fun _ _ => rfl) dX2_stateOn_25
      · simp only [sto, ↓reduceIte, Bool.false_eq_true, c_11, c_21]
  · skip
    refine lv_iconst (v := nI 0) hx hb dX2_stateOn_14 (by decide) ?_
    refine x_iret X h hr rfl ?_ (fun _ _ => rfl) dX2_stateOn_15
    · simp only [sto, ↓reduceIte, Bool.false_eq_true, c_11]

set_option maxHeartbeats 4000000 in
set_option maxRecDepth 100000 in
theorem m_X2_countMarks {l : Launch} {D : va_G} {tc : TC} {dz : Nat} {ad : KN → Nat} {Ks : List KN} {gm : GM} (I : Mem) (b e : Nat) (hL : LV gm Ks) (hG : GMok gm) (hb2 : b < 2) (he : e < 10) (d : Nat) (hd : d < 6) (mc : Nat) (hmc : I (4, b, e, 0) 1 = nI mc) (hml : mc ≤ (gm b e).1) : MI l yX2_countMarks cX2_countMarks 4 (Option.some ClassFile.FieldType.int) 3 D tc dz ad Ks (lay tc ad gm dz I) [.ref (ad (4, b, e, 0)), .int (nI d)] (nI (cmk I b e d mc)) (lay tc ad gm dz I) := by
  intro sz
  have hg := hG b e
  refine x_ofW (by decide +kernel) (Nat.le_of_ble_eq_true rfl) (fun pp ee s mm bel meth cd ls X hr hin hz h hl => ?_)
  subst hz
  obtain ⟨hx, hb, hmaxL, hown, hts⟩ := id X.1
  have hl : lv_has ls 4 [(0, .ref (ad (4, b, e, 0))), (1, .int (nI d))] := hl
  refine lv_iconst (v := nI 0) hx hb dX2_countMarks_0 (by decide) ?_
  refine lv_istore_n (lv' := [(2, .int (nI 0)), (0, .ref (ad (4, b, e, 0))), (1, .int (nI d))]) hx hb dX2_countMarks_1 rfl hl (by decide) rfl (fun ls hl => ?_)
  refine lv_iconst (v := nI 0) hx hb dX2_countMarks_2 (by decide) ?_
  refine lv_istore_n (lv' := [(3, .int (nI 0)), (2, .int (nI 0)), (0, .ref (ad (4, b, e, 0))), (1, .int (nI d))]) hx hb dX2_countMarks_3 rfl hl (by decide) rfl (fun ls hl => ?_)
  refine y_loop (D := D) (A := wA ad Ks s.heap.size) (ad := ad) (Ks := Ks) (nL := 4) (fun i : Nat => lay tc ad gm dz I) (fun i => [(3, .int (nI i)), (2, .int (nI (cntN (fun y => kno (I (19, b, e, y) d)) i))), (1, .int (nI d)), (0, .ref (ad (4, b, e, 0)))]) (fun _ => []) (fun i : Nat => i ≤ mc) (fun i => mc - i) (fun i hi4 ih4 H locs ls h hl => ?_) 0 (Nat.zero_le _) (h.eq (congrArg (lay tc ad gm dz) rfl)) (lv_sub hl [0, 1, 3, 2] rfl) rfl
  have h : Sx D (wA ad Ks s.heap.size) ad Ks (lay tc ad gm dz I) s H locs := h
  have hl : lv_has ls 4 [(3, .int (nI i)), (2, .int (nI (cntN (fun y => kno (I (19, b, e, y) d)) i))), (1, .int (nI d)), (0, .ref (ad (4, b, e, 0)))] := hl
  refine lv_iload_n hx hb dX2_countMarks_4 rfl (lv_at hl 0 rfl) ?_
  refine lv_aload_n hx hb dX2_countMarks_5 rfl (lv_at hl 3 rfl) ?_
  refine gf_Entry_markCount X h (hL (4, b, e, 0) ⟨by omega, by omega, rfl⟩) q130 (v := nI mc) hmc dX2_countMarks_6 ?_
  refine n_icmp_ge (tgt := 50) hx hb (by omega) (by omega) dX2_countMarks_9 (by decide) (fun c_9 => ?_) (fun c_9 => ?_)
  · skip
    have him : mc = i := by omega
    subst him
    refine lv_iload_n hx hb dX2_countMarks_50 rfl (lv_at hl 1 rfl) ?_
    exact x_iret X h hr rfl rfl (fun _ _ => rfl) dX2_countMarks_51
  · skip
    refine lv_iload_n hx hb dX2_countMarks_12 rfl (lv_at hl 0 rfl) ?_
    refine lv_aload_n hx hb dX2_countMarks_13 rfl (lv_at hl 3 rfl) ?_
    refine gf_Entry_marks X h (hL (4, b, e, 0) ⟨by omega, by omega, rfl⟩) q136 dX2_countMarks_14 ?_
    refine x_doneI X h (x_runV X h (k := (7, b, e, 0)) (m_Jx4a65c_size_8abf5 I b e hL hG (by omega) (by omega) _) F_Jx4a65c_size_8abf5 q288 q289 q290 (hL (7, b, e, 0) ⟨by omega, by omega, rfl⟩) rfl rfl rfl (by decide) (by decide) ⟨Nat.le_refl _, Nat.le_refl _⟩ hl.1 (Nat.le_of_ble_eq_true rfl) dX2_countMarks_17 rfl) (fun H locs h => ?_)
    refine n_icmp_ge (tgt := 50) hx hb (by omega) (by omega) dX2_countMarks_20 (by decide) (fun c_20 => ?_) (fun c_20 => ?_)
    · skip
      have him : mc = i := by omega
      subst him
      refine lv_iload_n hx hb dX2_countMarks_50 rfl (lv_at hl 1 rfl) ?_
      exact x_iret X h hr rfl rfl (fun _ _ => rfl) dX2_countMarks_51
    · skip
      refine lv_aload_n hx hb dX2_countMarks_23 rfl (lv_at hl 3 rfl) ?_
      refine gf_Entry_marks X h (hL (4, b, e, 0) ⟨by omega, by omega, rfl⟩) q136 dX2_countMarks_24 ?_
      refine lv_iload_n hx hb dX2_countMarks_27 rfl (lv_at hl 0 rfl) ?_
      refine x_doneA X h (x_runV X h (k := (7, b, e, 0)) (m_Jx4a65c_get_915e3 I b e hL hG (by omega) (by omega) i (by omega) _) F_Jx4a65c_get_915e3 q292 q293 q294 (hL (7, b, e, 0) ⟨by omega, by omega, rfl⟩) rfl rfl rfl (by decide) (by decide) ⟨Nat.le_refl _, Nat.le_refl _⟩ hl.1 (Nat.le_of_ble_eq_true rfl) dX2_countMarks_28 rfl) (fun H locs h => ?_)
      refine x_cast X h (hL (16, b, e, i) ⟨by omega, by omega, by omega⟩) rfl rfl q306 dX2_countMarks_31 ?_
      refine lv_iload_n hx hb dX2_countMarks_34 rfl (lv_at hl 2 rfl) ?_
      refine x_doneI X h (x_runV X h (k := (16, b, e, i)) (m_X4_isKnownOn I b e i hL (by omega) (by omega) (by omega) d (by omega) _) F_X4_isKnownOn q307 q308 q309 (hL (16, b, e, i) ⟨by omega, by omega, by omega⟩) rfl rfl rfl (by decide) (by decide) ⟨Nat.le_refl _, Nat.le_refl _⟩ hl.1 (Nat.le_of_ble_eq_true rfl) dX2_countMarks_35 rfl) (fun H locs h => ?_)
      refine b_if_eq (tgt := 44) hx hb dX2_countMarks_38 (by decide) (fun c_38 => ?_) (fun c_38 => ?_)
      · skip
        have hq : kno (I (19, b, e, i) d) = false := by exact c_38
        have hcn := cntN_n (p := fun y => kno (I (19, b, e, y) d)) hq
        rw [← hcn] at hl
        refine n_iinc (j := i) (n := 1) (lv' := [(3, .int (nI (i + 1))), (2, .int (nI (cntN (fun y => kno (I (19, b, e, y) d)) (i + 1)))), (1, .int (nI d)), (0, .ref (ad (4, b, e, 0)))]) hx hb dX2_countMarks_44 hl (k := 0) rfl (by decide) (by decide) rfl (fun ls hl => ?_)
        refine lv_goto (tgt := 4) hx hb dX2_countMarks_47 (by decide) ?_
        exact ih4 (i + 1) (by omega) (by omega) H locs ls (h.eq (congrArg (lay tc ad gm dz) rfl)) (lv_sub hl [0, 1, 2, 3] rfl)
      · skip
        have hq : kno (I (19, b, e, i) d) = true := by exact c_38
        have hcn := cntN_y (p := fun y => kno (I (19, b, e, y) d)) hq
        refine lv_iinc (v := nI (cntN (fun y => kno (I (19, b, e, y) d)) (i + 1))) (lv' := [(2, .int (nI (cntN (fun y => kno (I (19, b, e, y) d)) (i + 1)))), (3, .int (nI i)), (1, .int (nI d)), (0, .ref (ad (4, b, e, 0)))]) hx hb dX2_countMarks_41 hl (k := 1) rfl (by rw [hcn]; exact nI_1 _) (by decide) rfl (fun ls hl => ?_)
        refine n_iinc (j := i) (n := 1) (lv' := [(3, .int (nI (i + 1))), (2, .int (nI (cntN (fun y => kno (I (19, b, e, y) d)) (i + 1)))), (1, .int (nI d)), (0, .ref (ad (4, b, e, 0)))]) hx hb dX2_countMarks_44 hl (k := 1) rfl (by decide) (by decide) rfl (fun ls hl => ?_)
        refine lv_goto (tgt := 4) hx hb dX2_countMarks_47 (by decide) ?_
        exact ih4 (i + 1) (by omega) (by omega) H locs ls (h.eq (congrArg (lay tc ad gm dz) rfl)) (lv_sub hl [0, 1, 2, 3] rfl)

set_option maxHeartbeats 4000000 in
set_option maxRecDepth 100000 in
theorem m_X2_newestMark {l : Launch} {D : va_G} {tc : TC} {dz : Nat} {ad : KN → Nat} {Ks : List KN} {gm : GM} (I : Mem) (b e : Nat) (hL : LV gm Ks) (hG : GMok gm) (hb2 : b < 2) (he : e < 10) (d : Nat) (hd : d < 6) (mc : Nat) (hmc : I (4, b, e, 0) 1 = nI mc) (hml : mc ≤ (gm b e).1) : MI l yX2_newestMark cX2_newestMark 4 (Option.some ClassFile.FieldType.int) 3 D tc dz ad Ks (lay tc ad gm dz I) [.ref (ad (4, b, e, 0)), .int (nI d)] (nwm I b e d mc) (lay tc ad gm dz I) := by
  intro sz
  have hg := hG b e
  refine x_ofW (by decide +kernel) (Nat.le_of_ble_eq_true rfl) (fun pp ee s mm bel meth cd ls X hr hin hz h hl => ?_)
  subst hz
  obtain ⟨hx, hb, hmaxL, hown, hts⟩ := id X.1
  have hl : lv_has ls 4 [(0, .ref (ad (4, b, e, 0))), (1, .int (nI d))] := hl
  refine lv_iconst (v := (-1)) hx hb dX2_newestMark_0 (by decide) ?_
  refine lv_istore_n (lv' := [(2, .int (-1)), (0, .ref (ad (4, b, e, 0))), (1, .int (nI d))]) hx hb dX2_newestMark_1 rfl hl (by decide) rfl (fun ls hl => ?_)
  refine lv_iconst (v := nI 0) hx hb dX2_newestMark_2 (by decide) ?_
  refine lv_istore_n (lv' := [(3, .int (nI 0)), (2, .int (-1)), (0, .ref (ad (4, b, e, 0))), (1, .int (nI d))]) hx hb dX2_newestMark_3 rfl hl (by decide) rfl (fun ls hl => ?_)
  refine y_loop (D := D) (A := wA ad Ks s.heap.size) (ad := ad) (Ks := Ks) (nL := 4) (fun i : Nat => lay tc ad gm dz I) (fun i => [(3, .int (nI i)), (2, .int (nwm I b e d i)), (1, .int (nI d)), (0, .ref (ad (4, b, e, 0)))]) (fun _ => []) (fun i : Nat => i ≤ mc) (fun i => mc - i) (fun i hi4 ih4 H locs ls h hl => ?_) 0 (Nat.zero_le _) (h.eq (congrArg (lay tc ad gm dz) rfl)) (lv_sub hl [0, 1, 3, 2] rfl) rfl
  have h : Sx D (wA ad Ks s.heap.size) ad Ks (lay tc ad gm dz I) s H locs := h
  have hl : lv_has ls 4 [(3, .int (nI i)), (2, .int (nwm I b e d i)), (1, .int (nI d)), (0, .ref (ad (4, b, e, 0)))] := hl
  refine lv_iload_n hx hb dX2_newestMark_4 rfl (lv_at hl 0 rfl) ?_
  refine lv_aload_n hx hb dX2_newestMark_5 rfl (lv_at hl 3 rfl) ?_
  refine gf_Entry_markCount X h (hL (4, b, e, 0) ⟨by omega, by omega, rfl⟩) q130 (v := nI mc) hmc dX2_newestMark_6 ?_
  refine n_icmp_ge (tgt := 50) hx hb (by omega) (by omega) dX2_newestMark_9 (by decide) (fun c_9 => ?_) (fun c_9 => ?_)
  · skip
    have him : mc = i := by omega
    subst him
    refine lv_iload_n hx hb dX2_newestMark_50 rfl (lv_at hl 1 rfl) ?_
    exact x_iret X h hr rfl rfl (fun _ _ => rfl) dX2_newestMark_51
  · skip
    refine lv_iload_n hx hb dX2_newestMark_12 rfl (lv_at hl 0 rfl) ?_
    refine lv_aload_n hx hb dX2_newestMark_13 rfl (lv_at hl 3 rfl) ?_
    refine gf_Entry_marks X h (hL (4, b, e, 0) ⟨by omega, by omega, rfl⟩) q136 dX2_newestMark_14 ?_
    refine x_doneI X h (x_runV X h (k := (7, b, e, 0)) (m_Jx4a65c_size_8abf5 I b e hL hG (by omega) (by omega) _) F_Jx4a65c_size_8abf5 q288 q289 q290 (hL (7, b, e, 0) ⟨by omega, by omega, rfl⟩) rfl rfl rfl (by decide) (by decide) ⟨Nat.le_refl _, Nat.le_refl _⟩ hl.1 (Nat.le_of_ble_eq_true rfl) dX2_newestMark_17 rfl) (fun H locs h => ?_)
    refine n_icmp_ge (tgt := 50) hx hb (by omega) (by omega) dX2_newestMark_20 (by decide) (fun c_20 => ?_) (fun c_20 => ?_)
    · skip
      have him : mc = i := by omega
      subst him
      refine lv_iload_n hx hb dX2_newestMark_50 rfl (lv_at hl 1 rfl) ?_
      exact x_iret X h hr rfl rfl (fun _ _ => rfl) dX2_newestMark_51
    · skip
      refine lv_iload_n hx hb dX2_newestMark_23 rfl (lv_at hl 1 rfl) ?_
      refine lv_aload_n hx hb dX2_newestMark_24 rfl (lv_at hl 3 rfl) ?_
      refine gf_Entry_marks X h (hL (4, b, e, 0) ⟨by omega, by omega, rfl⟩) q136 dX2_newestMark_25 ?_
      refine lv_iload_n hx hb dX2_newestMark_28 rfl (lv_at hl 0 rfl) ?_
      refine x_doneA X h (x_runV X h (k := (7, b, e, 0)) (m_Jx4a65c_get_915e3 I b e hL hG (by omega) (by omega) i (by omega) _) F_Jx4a65c_get_915e3 q292 q293 q294 (hL (7, b, e, 0) ⟨by omega, by omega, rfl⟩) rfl rfl rfl (by decide) (by decide) ⟨Nat.le_refl _, Nat.le_refl _⟩ hl.1 (Nat.le_of_ble_eq_true rfl) dX2_newestMark_29 rfl) (fun H locs h => ?_)
      refine x_cast X h (hL (16, b, e, i) ⟨by omega, by omega, by omega⟩) rfl rfl q306 dX2_newestMark_32 ?_
      refine gf_Mark_knownSince X h (hL (16, b, e, i) ⟨by omega, by omega, by omega⟩) q505 dX2_newestMark_35 ?_
      refine lv_iload_n hx hb dX2_newestMark_38 rfl (lv_at hl 2 rfl) ?_
      refine y_ald X h (fun _ => rfl) (by decide) (hL (19, b, e, i) ⟨by omega, by omega, by omega⟩) (by omega) (v := I (19, b, e, i) d) rfl dX2_newestMark_39 ?_
      refine x_max X hl.1 q666 (by decide) (Nat.le_of_ble_eq_true rfl) (Nat.le_refl _) (Nat.le_refl _) dX2_newestMark_40 ?_
      rw [show (if (nwm I b e d i) < (I (19, b, e, i) d) then I (19, b, e, i) d else nwm I b e d i) = nwm I b e d (i + 1) from rfl]
      refine lv_istore_n (lv' := [(2, .int (nwm I b e d (i + 1))), (3, .int (nI i)), (1, .int (nI d)), (0, .ref (ad (4, b, e, 0)))]) hx hb dX2_newestMark_43 rfl hl (by decide) rfl (fun ls hl => ?_)
      refine n_iinc (j := i) (n := 1) (lv' := [(3, .int (nI (i + 1))), (2, .int (nwm I b e d (i + 1))), (1, .int (nI d)), (0, .ref (ad (4, b, e, 0)))]) hx hb dX2_newestMark_44 hl (k := 1) rfl (by decide) (by decide) rfl (fun ls hl => ?_)
      refine lv_goto (tgt := 4) hx hb dX2_newestMark_47 (by decide) ?_
      exact ih4 (i + 1) (by omega) (by omega) H locs ls (h.eq (congrArg (lay tc ad gm dz) rfl)) (lv_sub hl [0, 1, 2, 3] rfl)

set_option maxHeartbeats 4000000 in
set_option maxRecDepth 100000 in
theorem m_X2_forget {l : Launch} {D : va_G} {tc : TC} {dz : Nat} {ad : KN → Nat} {Ks : List KN} {gm : GM} (I : Mem) (b e : Nat) (hL : LV gm Ks) (hG : GMok gm) (hb2 : b < 2) (he : e < 10) (d : Nat) (hd : d < 6) (mc : Nat) (hmc : I (4, b, e, 0) 1 = nI mc) (hml : mc ≤ (gm b e).1) : MV l yX2_forget cX2_forget 5 3 D tc dz ad Ks (lay tc ad gm dz I) [.ref (ad (4, b, e, 0)), .int (nI d)] (lay tc ad gm dz (forgetM I b e d mc)) := by
  intro sz
  have hg := hG b e
  refine x_ofW (by decide +kernel) (Nat.le_of_ble_eq_true rfl) (fun pp ee s mm bel meth cd ls X hr hin hz h hl => ?_)
  subst hz
  obtain ⟨hx, hb, hmaxL, hown, hts⟩ := id X.1
  have hl : lv_has ls 5 [(0, .ref (ad (4, b, e, 0))), (1, .int (nI d))] := hl
  refine lv_aload_n hx hb dX2_forget_0 rfl (lv_at hl 0 rfl) ?_
  refine gf_Entry_copies X h (hL (4, b, e, 0) ⟨by omega, by omega, rfl⟩) q133 dX2_forget_1 ?_
  refine lv_iload_n hx hb dX2_forget_4 rfl (lv_at hl 1 rfl) ?_
  refine ra_copies X h (hL (6, b, e, 0) ⟨by omega, by omega, rfl⟩) (j := d) (by omega) dX2_forget_5 ?_
  refine lv_astore_n (lv' := [(2, .ref (ad (9, b, e, d))), (0, .ref (ad (4, b, e, 0))), (1, .int (nI d))]) hx hb dX2_forget_6 rfl hl (by decide) rfl (fun ls hl => ?_)
  refine lv_aload_n hx hb dX2_forget_7 rfl (lv_at hl 0 rfl) ?_
  refine lv_iconst (v := nI 1) hx hb dX2_forget_8 (by decide) ?_
  refine pf_Copy_noted X h (hL (9, b, e, d) ⟨by omega, by omega, by omega⟩) q102 (by decide) (by decide) dX2_forget_9 (fun H locs h => ?_)
  refine lv_aload_n hx hb dX2_forget_12 rfl (lv_at hl 0 rfl) ?_
  refine gf_Copy_note X h (hL (9, b, e, d) ⟨by omega, by omega, by omega⟩) q113 dX2_forget_13 ?_
  refine lv_aload_n hx hb dX2_forget_16 rfl (lv_at hl 0 rfl) ?_
  refine gf_Copy_seen X h (hL (9, b, e, d) ⟨by omega, by omega, by omega⟩) q110 dX2_forget_17 ?_
  refine x_doneV X h (x_runV X h (k := (14, b, e, d)) (m_X5_raiseTo (sset I (9, b, e, d) (upd (I (9, b, e, d)) 1 (nI 1))) (14, b, e, d) (15, b, e, d) (fun _ => rfl) (fun _ => rfl) (hL (14, b, e, d) ⟨by omega, by omega, by omega⟩) (hL (15, b, e, d) ⟨by omega, by omega, by omega⟩) (12, b, e, d) (13, b, e, d) (fun _ => rfl) (fun _ => rfl) (hL (12, b, e, d) ⟨by omega, by omega, by omega⟩) (hL (13, b, e, d) ⟨by omega, by omega, by omega⟩) _) F_X5_raiseTo q624 q578 q579 (hL (14, b, e, d) ⟨by omega, by omega, by omega⟩) rfl rfl rfl (by decide) (by decide) ⟨Nat.le_refl _, Nat.le_refl _⟩ hl.1 (Nat.le_of_ble_eq_true rfl) dX2_forget_20 rfl) (fun H locs h => ?_)
  have h := h.eq (congrArg (lay tc ad gm dz) (show (sset (sset I (9, b, e, d) (upd (I (9, b, e, d)) 1 (nI 1))) (15, b, e, d) (gM ((sset I (9, b, e, d) (upd (I (9, b, e, d)) 1 (nI 1))) (15, b, e, d)) ((sset I (9, b, e, d) (upd (I (9, b, e, d)) 1 (nI 1))) (13, b, e, d)))) = (fgM I b e d 0) from (fg_0 I b e d)))
  refine lv_iconst (v := nI 0) hx hb dX2_forget_23 (by decide) ?_
  refine lv_istore_n (lv' := [(3, .int (nI 0)), (2, .ref (ad (9, b, e, d))), (0, .ref (ad (4, b, e, 0))), (1, .int (nI d))]) hx hb dX2_forget_24 rfl hl (by decide) rfl (fun ls hl => ?_)
  refine y_loop (D := D) (A := wA ad Ks s.heap.size) (ad := ad) (Ks := Ks) (nL := 5) (fun i : Nat => lay tc ad gm dz (fgM I b e d i)) (fun i => [(3, .int (nI i)), (2, .ref (ad (9, b, e, d))), (1, .int (nI d)), (0, .ref (ad (4, b, e, 0)))]) (fun _ => []) (fun i : Nat => i ≤ mc) (fun i => mc - i) (fun i hi25 ih25 H locs ls h hl => ?_) 0 (Nat.zero_le _) (h.eq (congrArg (lay tc ad gm dz) rfl)) (lv_sub hl [0, 1, 3, 2] rfl) rfl
  have h : Sx D (wA ad Ks s.heap.size) ad Ks (lay tc ad gm dz (fgM I b e d i)) s H locs := h
  have hl : lv_has ls 5 [(3, .int (nI i)), (2, .ref (ad (9, b, e, d))), (1, .int (nI d)), (0, .ref (ad (4, b, e, 0)))] := hl
  refine lv_iload_n hx hb dX2_forget_25 rfl (lv_at hl 0 rfl) ?_
  refine lv_aload_n hx hb dX2_forget_26 rfl (lv_at hl 3 rfl) ?_
  refine gf_Entry_markCount X h (hL (4, b, e, 0) ⟨by omega, by omega, rfl⟩) q130 (v := nI mc) ((congrFun (fg_see (by exact Nat.ne_of_beq_eq_false rfl) (by exact Nat.ne_of_beq_eq_false rfl) (by exact Nat.ne_of_beq_eq_false rfl)) 1).trans hmc) dX2_forget_27 ?_
  refine n_icmp_ge (tgt := 92) hx hb (by omega) (by omega) dX2_forget_30 (by decide) (fun c_30 => ?_) (fun c_30 => ?_)
  · skip
    have him : mc = i := by omega
    subst him
    refine lv_aload_n hx hb dX2_forget_92 rfl (lv_at hl 1 rfl) ?_
    refine lv_iconst (v := nI 0) hx hb dX2_forget_93 (by decide) ?_
    refine pf_Copy_known X h (hL (9, b, e, d) ⟨by omega, by omega, by omega⟩) q98 (by decide) (by decide) dX2_forget_94 (fun H locs h => ?_)
    refine lv_aload_n hx hb dX2_forget_97 rfl (lv_at hl 1 rfl) ?_
    refine lv_iconst (v := nI 0) hx hb dX2_forget_98 (by decide) ?_
    refine x_doneV X h (x_runV X h (k := (9, b, e, d)) (m_X1_keepFields (sset (fgM I b e d mc) (9, b, e, d) (upd ((fgM I b e d mc) (9, b, e, d)) 0 (nI 0))) b e d hL (by omega) (by omega) (by omega) (nI 0) _) F_X1_keepFields q625 q599 q600 (hL (9, b, e, d) ⟨by omega, by omega, by omega⟩) rfl rfl rfl (by decide) (by decide) ⟨Nat.le_refl _, Nat.le_refl _⟩ hl.1 (Nat.le_of_ble_eq_true rfl) dX2_forget_99 rfl) (fun H locs h => ?_)
    refine x_vret X h hr (fun k _ => congrFun (congrArg (lay tc ad gm dz) ?_) k) dX2_forget_102
    · exact fg_end
  · skip
    refine lv_iload_n hx hb dX2_forget_33 rfl (lv_at hl 0 rfl) ?_
    refine lv_aload_n hx hb dX2_forget_34 rfl (lv_at hl 3 rfl) ?_
    refine gf_Entry_marks X h (hL (4, b, e, 0) ⟨by omega, by omega, rfl⟩) q136 dX2_forget_35 ?_
    refine x_doneI X h (x_runV X h (k := (7, b, e, 0)) (m_Jx4a65c_size_8abf5 (fgM I b e d i) b e hL hG (by omega) (by omega) _) F_Jx4a65c_size_8abf5 q288 q289 q290 (hL (7, b, e, 0) ⟨by omega, by omega, rfl⟩) rfl rfl rfl (by decide) (by decide) ⟨Nat.le_refl _, Nat.le_refl _⟩ hl.1 (Nat.le_of_ble_eq_true rfl) dX2_forget_38 rfl) (fun H locs h => ?_)
    refine n_icmp_ge (tgt := 92) hx hb (by omega) (by omega) dX2_forget_41 (by decide) (fun c_41 => ?_) (fun c_41 => ?_)
    · skip
      have him : mc = i := by omega
      subst him
      refine lv_aload_n hx hb dX2_forget_92 rfl (lv_at hl 1 rfl) ?_
      refine lv_iconst (v := nI 0) hx hb dX2_forget_93 (by decide) ?_
      refine pf_Copy_known X h (hL (9, b, e, d) ⟨by omega, by omega, by omega⟩) q98 (by decide) (by decide) dX2_forget_94 (fun H locs h => ?_)
      refine lv_aload_n hx hb dX2_forget_97 rfl (lv_at hl 1 rfl) ?_
      refine lv_iconst (v := nI 0) hx hb dX2_forget_98 (by decide) ?_
      refine x_doneV X h (x_runV X h (k := (9, b, e, d)) (m_X1_keepFields (sset (fgM I b e d mc) (9, b, e, d) (upd ((fgM I b e d mc) (9, b, e, d)) 0 (nI 0))) b e d hL (by omega) (by omega) (by omega) (nI 0) _) F_X1_keepFields q625 q599 q600 (hL (9, b, e, d) ⟨by omega, by omega, by omega⟩) rfl rfl rfl (by decide) (by decide) ⟨Nat.le_refl _, Nat.le_refl _⟩ hl.1 (Nat.le_of_ble_eq_true rfl) dX2_forget_99 rfl) (fun H locs h => ?_)
      refine x_vret X h hr (fun k _ => congrFun (congrArg (lay tc ad gm dz) ?_) k) dX2_forget_102
      · exact fg_end
    · skip
      refine lv_aload_n hx hb dX2_forget_44 rfl (lv_at hl 3 rfl) ?_
      refine gf_Entry_marks X h (hL (4, b, e, 0) ⟨by omega, by omega, rfl⟩) q136 dX2_forget_45 ?_
      refine lv_iload_n hx hb dX2_forget_48 rfl (lv_at hl 0 rfl) ?_
      refine x_doneA X h (x_runV X h (k := (7, b, e, 0)) (m_Jx4a65c_get_915e3 (fgM I b e d i) b e hL hG (by omega) (by omega) i (by omega) _) F_Jx4a65c_get_915e3 q292 q293 q294 (hL (7, b, e, 0) ⟨by omega, by omega, rfl⟩) rfl rfl rfl (by decide) (by decide) ⟨Nat.le_refl _, Nat.le_refl _⟩ hl.1 (Nat.le_of_ble_eq_true rfl) dX2_forget_49 rfl) (fun H locs h => ?_)
      refine x_cast X h (hL (16, b, e, i) ⟨by omega, by omega, by omega⟩) rfl rfl q306 dX2_forget_52 ?_
      refine lv_astore (lv' := [(4, .ref (ad (16, b, e, i))), (3, .int (nI i)), (2, .ref (ad (9, b, e, d))), (1, .int (nI d)), (0, .ref (ad (4, b, e, 0)))]) hx hb dX2_forget_55 hl (by decide) rfl (fun ls hl => ?_)
      refine lv_aload hx hb dX2_forget_57 (lv_at hl 0 rfl) ?_
      refine lv_iload_n hx hb dX2_forget_59 rfl (lv_at hl 3 rfl) ?_
      refine x_doneI X h (x_runV X h (k := (16, b, e, i)) (m_X4_isKnownOn (fgM I b e d i) b e i hL (by omega) (by omega) (by omega) d (by omega) _) F_X4_isKnownOn q307 q308 q309 (hL (16, b, e, i) ⟨by omega, by omega, by omega⟩) rfl rfl rfl (by decide) (by decide) ⟨Nat.le_refl _, Nat.le_refl _⟩ hl.1 (Nat.le_of_ble_eq_true rfl) dX2_forget_60 rfl) (fun H locs h => ?_)
      refine b_if_eq (tgt := 86) hx hb dX2_forget_63 (by decide) (fun c_63 => ?_) (fun c_63 => ?_)
      · skip
        have hk := c_63
        rw [fg_19 (Nat.le_refl i)] at hk
        refine n_iinc (j := i) (n := 1) (lv' := [(3, .int (nI (i + 1))), (4, .ref (ad (16, b, e, i))), (2, .ref (ad (9, b, e, d))), (1, .int (nI d)), (0, .ref (ad (4, b, e, 0)))]) hx hb dX2_forget_86 hl (k := 1) rfl (by decide) (by decide) rfl (fun ls hl => ?_)
        refine lv_goto (tgt := 25) hx hb dX2_forget_89 (by decide) ?_
        have hm : (fgM I b e d i) = (fgM I b e d (i + 1)) := by
          exact fg_s2 hk
        exact ih25 (i + 1) (by omega) (by omega) H locs ls (h.eq (congrArg (lay tc ad gm dz) hm)) (lv_sub hl [0, 2, 3, 4] rfl)
      · skip
        have hk := c_63
        rw [fg_19 (Nat.le_refl i)] at hk
        refine lv_aload_n hx hb dX2_forget_66 rfl (lv_at hl 2 rfl) ?_
        refine gf_Copy_note X h (hL (9, b, e, d) ⟨by omega, by omega, by omega⟩) q113 dX2_forget_67 ?_
        refine lv_aload hx hb dX2_forget_70 (lv_at hl 0 rfl) ?_
        refine gf_Mark_seen X h (hL (16, b, e, i) ⟨by omega, by omega, by omega⟩) q503 dX2_forget_72 ?_
        refine x_doneV X h (x_runV X h (k := (14, b, e, d)) (m_X5_raiseTo (fgM I b e d i) (14, b, e, d) (15, b, e, d) (fun _ => rfl) (fun _ => rfl) (hL (14, b, e, d) ⟨by omega, by omega, by omega⟩) (hL (15, b, e, d) ⟨by omega, by omega, by omega⟩) (17, b, e, i) (18, b, e, i) (fun _ => rfl) (fun _ => rfl) (hL (17, b, e, i) ⟨by omega, by omega, by omega⟩) (hL (18, b, e, i) ⟨by omega, by omega, by omega⟩) _) F_X5_raiseTo q624 q578 q579 (hL (14, b, e, d) ⟨by omega, by omega, by omega⟩) rfl rfl rfl (by decide) (by decide) ⟨Nat.le_refl _, Nat.le_refl _⟩ hl.1 (Nat.le_of_ble_eq_true rfl) dX2_forget_75 rfl) (fun H locs h => ?_)
        refine lv_aload hx hb dX2_forget_78 (lv_at hl 0 rfl) ?_
        refine gf_Mark_knownSince X h (hL (16, b, e, i) ⟨by omega, by omega, by omega⟩) q505 dX2_forget_80 ?_
        refine lv_iload_n hx hb dX2_forget_83 rfl (lv_at hl 3 rfl) ?_
        refine lv_iconst (v := (-1)) hx hb dX2_forget_84 (by decide) ?_
        refine y_ast X h (fun _ => rfl) (by decide) (hL (19, b, e, i) ⟨by omega, by omega, by omega⟩) (by omega) dX2_forget_85 (fun H locs h => ?_)
        refine n_iinc (j := i) (n := 1) (lv' := [(3, .int (nI (i + 1))), (4, .ref (ad (16, b, e, i))), (2, .ref (ad (9, b, e, d))), (1, .int (nI d)), (0, .ref (ad (4, b, e, 0)))]) hx hb dX2_forget_86 hl (k := 1) rfl (by decide) (by decide) rfl (fun ls hl => ?_)
        refine lv_goto (tgt := 25) hx hb dX2_forget_89 (by decide) ?_
        have hm : (sset (sset (fgM I b e d i) (15, b, e, d) (gM ((fgM I b e d i) (15, b, e, d)) ((fgM I b e d i) (18, b, e, i)))) (19, b, e, i) (upd ((sset (fgM I b e d i) (15, b, e, d) (gM ((fgM I b e d i) (15, b, e, d)) ((fgM I b e d i) (18, b, e, i)))) (19, b, e, i)) d (-1))) = (fgM I b e d (i + 1)) := by
          exact fg_s1 hk
        exact ih25 (i + 1) (by omega) (by omega) H locs ls (h.eq (congrArg (lay tc ad gm dz) hm)) (lv_sub hl [0, 2, 3, 4] rfl)

set_option maxHeartbeats 4000000 in
set_option maxRecDepth 100000 in
theorem m_X2_forgetWhereOld {l : Launch} {D : va_G} {tc : TC} {dz : Nat} {ad : KN → Nat} {Ks : List KN} {gm : GM} (I : Mem) (b e : Nat) (hL : LV gm Ks) (hG : GMok gm) (hb2 : b < 2) (he : e < 10) (month : Int32) (mc : Nat) (hmc : I (4, b, e, 0) 1 = nI mc) (hml : mc ≤ (gm b e).1) : MI l yX2_forgetWhereOld cX2_forgetWhereOld 4 (Option.some ClassFile.FieldType.int) 5 D tc dz ad Ks (lay tc ad gm dz I) [.ref (ad (4, b, e, 0)), .int month] (nI (fwoN I b e mc month 6)) (lay tc ad gm dz (fwoM I b e mc month 6)) := by
  intro sz
  have hg := hG b e
  refine x_ofW (by decide +kernel) (Nat.le_of_ble_eq_true rfl) (fun pp ee s mm bel meth cd ls X hr hin hz h hl => ?_)
  subst hz
  obtain ⟨hx, hb, hmaxL, hown, hts⟩ := id X.1
  have hl : lv_has ls 4 [(0, .ref (ad (4, b, e, 0))), (1, .int month)] := hl
  refine lv_iconst (v := nI 0) hx hb dX2_forgetWhereOld_0 (by decide) ?_
  refine lv_istore_n (lv' := [(2, .int (nI 0)), (0, .ref (ad (4, b, e, 0))), (1, .int month)]) hx hb dX2_forgetWhereOld_1 rfl hl (by decide) rfl (fun ls hl => ?_)
  refine lv_iconst (v := nI 0) hx hb dX2_forgetWhereOld_2 (by decide) ?_
  refine lv_istore_n (lv' := [(3, .int (nI 0)), (2, .int (nI 0)), (0, .ref (ad (4, b, e, 0))), (1, .int month)]) hx hb dX2_forgetWhereOld_3 rfl hl (by decide) rfl (fun ls hl => ?_)
  refine y_loop (D := D) (A := wA ad Ks s.heap.size) (ad := ad) (Ks := Ks) (nL := 4) (fun i : Nat => lay tc ad gm dz (fwoM I b e mc month i)) (fun i => [(3, .int (nI i)), (2, .int (nI (fwoN I b e mc month i))), (1, .int month), (0, .ref (ad (4, b, e, 0)))]) (fun _ => []) (fun i : Nat => i ≤ 6) (fun i => 6 - i) (fun i hi4 ih4 H locs ls h hl => ?_) 0 (Nat.zero_le _) (h.eq (congrArg (lay tc ad gm dz) rfl)) (lv_sub hl [0, 1, 3, 2] rfl) rfl
  have h : Sx D (wA ad Ks s.heap.size) ad Ks (lay tc ad gm dz (fwoM I b e mc month i)) s H locs := h
  have hl : lv_has ls 4 [(3, .int (nI i)), (2, .int (nI (fwoN I b e mc month i))), (1, .int month), (0, .ref (ad (4, b, e, 0)))] := hl
  refine lv_iload_n hx hb dX2_forgetWhereOld_4 rfl (lv_at hl 0 rfl) ?_
  refine lv_bipush (v := nI 6) hx hb dX2_forgetWhereOld_5 (by decide) ?_
  refine n_icmp_ge (tgt := 45) hx hb (by omega) (by omega) dX2_forgetWhereOld_7 (by decide) (fun c_7 => ?_) (fun c_7 => ?_)
  · skip
    obtain rfl : i = 6 := by omega
    refine lv_iload_n hx hb dX2_forgetWhereOld_45 rfl (lv_at hl 1 rfl) ?_
    exact x_iret X h hr rfl rfl (fun _ _ => rfl) dX2_forgetWhereOld_46
  · skip
    refine lv_aload_n hx hb dX2_forgetWhereOld_10 rfl (lv_at hl 3 rfl) ?_
    refine lv_iload_n hx hb dX2_forgetWhereOld_11 rfl (lv_at hl 0 rfl) ?_
    refine x_doneI X h (x_runV X h (k := (4, b, e, 0)) (m_X2_stateOn (fwoM I b e mc month i) b e hL hG (by omega) (by omega) i (by omega) mc ((congrFun (fwo_see (by exact Nat.ne_of_beq_eq_false rfl) (by exact Nat.ne_of_beq_eq_false rfl) (by exact Nat.ne_of_beq_eq_false rfl) (by exact Nat.ne_of_beq_eq_false rfl) (by exact Nat.ne_of_beq_eq_false rfl) (by exact Nat.ne_of_beq_eq_false rfl) i) 1).trans hmc) hml _) F_X2_stateOn q342 q281 q282 (hL (4, b, e, 0) ⟨by omega, by omega, rfl⟩) rfl rfl rfl (by decide) (by decide) ⟨Nat.le_refl _, Nat.le_refl _⟩ hl.1 (Nat.le_of_ble_eq_true rfl) dX2_forgetWhereOld_12 rfl) (fun H locs h => ?_)
    have hsl := sto_le (fwoM I b e mc month i) b e i mc
    refine lv_iconst (v := nI 2) hx hb dX2_forgetWhereOld_15 (by decide) ?_
    refine n_icmp_ne (tgt := 39) hx hb (by omega) (by omega) dX2_forgetWhereOld_16 (by decide) (fun c_16 => ?_) (fun c_16 => ?_)
    · skip
      have hq : isOldB (fwoM I b e mc month i) b e mc month i = false := by simp only [isOldB, decide_eq_false c_16, Bool.false_and]
      have hcn : fwoN I b e mc month (i + 1) = fwoN I b e mc month i := by rw [fwoN, if_neg (by rw [hq]; decide)]; rfl
      rw [← hcn] at hl
      refine n_iinc (j := i) (n := 1) (lv' := [(3, .int (nI (i + 1))), (2, .int (nI (fwoN I b e mc month (i + 1)))), (1, .int month), (0, .ref (ad (4, b, e, 0)))]) hx hb dX2_forgetWhereOld_39 hl (k := 0) rfl (by decide) (by decide) rfl (fun ls hl => ?_)
      refine lv_goto (tgt := 4) hx hb dX2_forgetWhereOld_42 (by decide) ?_
      have hm : (fwoM I b e mc month i) = (fwoM I b e mc month (i + 1)) := by
        rw [fwoM, if_neg (by rw [hq]; decide)]
      exact ih4 (i + 1) (by omega) (by omega) H locs ls (h.eq (congrArg (lay tc ad gm dz) hm)) (lv_sub hl [0, 1, 2, 3] rfl)
    · skip
      refine lv_iload_n hx hb dX2_forgetWhereOld_19 rfl (lv_at hl 2 rfl) ?_
      refine lv_aload_n hx hb dX2_forgetWhereOld_20 rfl (lv_at hl 3 rfl) ?_
      refine lv_iload_n hx hb dX2_forgetWhereOld_21 rfl (lv_at hl 0 rfl) ?_
      refine x_doneI X h (x_runV X h (k := (4, b, e, 0)) (m_X2_newestMark (fwoM I b e mc month i) b e hL hG (by omega) (by omega) i (by omega) mc ((congrFun (fwo_see (by exact Nat.ne_of_beq_eq_false rfl) (by exact Nat.ne_of_beq_eq_false rfl) (by exact Nat.ne_of_beq_eq_false rfl) (by exact Nat.ne_of_beq_eq_false rfl) (by exact Nat.ne_of_beq_eq_false rfl) (by exact Nat.ne_of_beq_eq_false rfl) i) 1).trans hmc) hml _) F_X2_newestMark q662 q663 q664 (hL (4, b, e, 0) ⟨by omega, by omega, rfl⟩) rfl rfl rfl (by decide) (by decide) ⟨Nat.le_refl _, Nat.le_refl _⟩ hl.1 (Nat.le_of_ble_eq_true rfl) dX2_forgetWhereOld_22 rfl) (fun H locs h => ?_)
      refine lv_isub hx hb dX2_forgetWhereOld_25 ?_
      refine lv_bipush (v := nI 12) hx hb dX2_forgetWhereOld_26 (by decide) ?_
      refine lv_icmp_le (tgt := 39) hx hb dX2_forgetWhereOld_28 (by decide) (fun c_28 => ?_) (fun c_28 => ?_)
      · skip
        have hq : isOldB (fwoM I b e mc month i) b e mc month i = false := by simp only [isOldB, decide_eq_true c_28, Bool.not_true, Bool.and_false]
        have hcn : fwoN I b e mc month (i + 1) = fwoN I b e mc month i := by rw [fwoN, if_neg (by rw [hq]; decide)]; rfl
        rw [← hcn] at hl
        refine n_iinc (j := i) (n := 1) (lv' := [(3, .int (nI (i + 1))), (2, .int (nI (fwoN I b e mc month (i + 1)))), (1, .int month), (0, .ref (ad (4, b, e, 0)))]) hx hb dX2_forgetWhereOld_39 hl (k := 0) rfl (by decide) (by decide) rfl (fun ls hl => ?_)
        refine lv_goto (tgt := 4) hx hb dX2_forgetWhereOld_42 (by decide) ?_
        have hm : (fwoM I b e mc month i) = (fwoM I b e mc month (i + 1)) := by
          rw [fwoM, if_neg (by rw [hq]; decide)]
        exact ih4 (i + 1) (by omega) (by omega) H locs ls (h.eq (congrArg (lay tc ad gm dz) hm)) (lv_sub hl [0, 1, 2, 3] rfl)
      · skip
        have hq : isOldB (fwoM I b e mc month i) b e mc month i = true := by simp only [isOldB, decide_eq_true c_16, decide_eq_false c_28, Bool.not_false, Bool.and_self]
        have hcn : fwoN I b e mc month (i + 1) = fwoN I b e mc month i + 1 := by rw [fwoN, if_pos hq]
        refine lv_aload_n hx hb dX2_forgetWhereOld_31 rfl (lv_at hl 3 rfl) ?_
        refine lv_iload_n hx hb dX2_forgetWhereOld_32 rfl (lv_at hl 0 rfl) ?_
        refine x_doneV X h (x_runV X h (k := (4, b, e, 0)) (m_X2_forget (fwoM I b e mc month i) b e hL hG (by omega) (by omega) i (by omega) mc ((congrFun (fwo_see (by exact Nat.ne_of_beq_eq_false rfl) (by exact Nat.ne_of_beq_eq_false rfl) (by exact Nat.ne_of_beq_eq_false rfl) (by exact Nat.ne_of_beq_eq_false rfl) (by exact Nat.ne_of_beq_eq_false rfl) (by exact Nat.ne_of_beq_eq_false rfl) i) 1).trans hmc) hml _) F_X2_forget q620 q621 q622 (hL (4, b, e, 0) ⟨by omega, by omega, rfl⟩) rfl rfl rfl (by decide) (by decide) ⟨Nat.le_refl _, Nat.le_refl _⟩ hl.1 (Nat.le_of_ble_eq_true rfl) dX2_forgetWhereOld_33 rfl) (fun H locs h => ?_)
        refine lv_iinc (v := nI (fwoN I b e mc month (i + 1))) (lv' := [(2, .int (nI (fwoN I b e mc month (i + 1)))), (3, .int (nI i)), (1, .int month), (0, .ref (ad (4, b, e, 0)))]) hx hb dX2_forgetWhereOld_36 hl (k := 1) rfl (by rw [hcn]; exact nI_1 _) (by decide) rfl (fun ls hl => ?_)
        refine n_iinc (j := i) (n := 1) (lv' := [(3, .int (nI (i + 1))), (2, .int (nI (fwoN I b e mc month (i + 1)))), (1, .int month), (0, .ref (ad (4, b, e, 0)))]) hx hb dX2_forgetWhereOld_39 hl (k := 1) rfl (by decide) (by decide) rfl (fun ls hl => ?_)
        refine lv_goto (tgt := 4) hx hb dX2_forgetWhereOld_42 (by decide) ?_
        have hm : (forgetM (fwoM I b e mc month i) b e i mc) = (fwoM I b e mc month (i + 1)) := by
          rw [fwoM, if_pos hq]
        exact ih4 (i + 1) (by omega) (by omega) H locs ls (h.eq (congrArg (lay tc ad gm dz) hm)) (lv_sub hl [0, 1, 2, 3] rfl)

set_option maxHeartbeats 4000000 in
set_option maxRecDepth 100000 in
theorem m_X2_isOutdated {l : Launch} {D : va_G} {tc : TC} {dz : Nat} {ad : KN → Nat} {Ks : List KN} {gm : GM} (I : Mem) (b e : Nat) (hL : LV gm Ks) (hG : GMok gm) (hb2 : b < 2) (he : e < 10) (d d2 : Nat) (hd : d < 6) (hd2 : d2 < 6) : MI l yX2_isOutdated cX2_isOutdated 5 (Option.some ClassFile.FieldType.boolean) 1 D tc dz ad Ks (lay tc ad gm dz I) [.ref (ad (4, b, e, 0)), .int (nI d), .int (nI d2)] (bI (otd I b e d d2)) (lay tc ad gm dz I) := by
  intro sz
  refine x_ofW (by decide +kernel) (Nat.le_of_ble_eq_true rfl) (fun pp ee s mm bel meth cd ls X hr hin hz h hl => ?_)
  subst hz
  obtain ⟨hx, hb, hmaxL, hown, hts⟩ := id X.1
  have hl : lv_has ls 5 [(0, .ref (ad (4, b, e, 0))), (1, .int (nI d)), (2, .int (nI d2))] := hl
  refine lv_aload_n hx hb dX2_isOutdated_0 rfl (lv_at hl 0 rfl) ?_
  refine gf_Entry_copies X h (hL (4, b, e, 0) ⟨by omega, by omega, rfl⟩) q133 dX2_isOutdated_1 ?_
  refine lv_iload_n hx hb dX2_isOutdated_4 rfl (lv_at hl 1 rfl) ?_
  refine ra_copies X h (hL (6, b, e, 0) ⟨by omega, by omega, rfl⟩) (j := d) (by omega) dX2_isOutdated_5 ?_
  refine lv_astore_n (lv' := [(3, .ref (ad (9, b, e, d))), (0, .ref (ad (4, b, e, 0))), (1, .int (nI d)), (2, .int (nI d2))]) hx hb dX2_isOutdated_6 rfl hl (by decide) rfl (fun ls hl => ?_)
  refine lv_aload_n hx hb dX2_isOutdated_7 rfl (lv_at hl 1 rfl) ?_
  refine gf_Entry_copies X h (hL (4, b, e, 0) ⟨by omega, by omega, rfl⟩) q133 dX2_isOutdated_8 ?_
  refine lv_iload_n hx hb dX2_isOutdated_11 rfl (lv_at hl 3 rfl) ?_
  refine ra_copies X h (hL (6, b, e, 0) ⟨by omega, by omega, rfl⟩) (j := d2) (by omega) dX2_isOutdated_12 ?_
  refine lv_astore (lv' := [(4, .ref (ad (9, b, e, d2))), (3, .ref (ad (9, b, e, d))), (0, .ref (ad (4, b, e, 0))), (1, .int (nI d)), (2, .int (nI d2))]) hx hb dX2_isOutdated_13 hl (by decide) rfl (fun ls hl => ?_)
  refine lv_aload_n hx hb dX2_isOutdated_15 rfl (lv_at hl 1 rfl) ?_
  refine gf_Copy_known X h (hL (9, b, e, d) ⟨by omega, by omega, by omega⟩) q98 (v := I (9, b, e, d) 0) rfl dX2_isOutdated_16 ?_
  refine lv_if_eq (tgt := 54) hx hb dX2_isOutdated_19 (by decide) (fun c_19 => ?_) (fun c_19 => ?_)
  · skip
    refine lv_iconst (v := nI 0) hx hb dX2_isOutdated_54 (by decide) ?_
    refine x_iret X h hr (by decide) ?_ (fun _ _ => rfl) dX2_isOutdated_55
    · simp only [otd, ↓reduceIte, c_19]; rfl
  · skip
    refine lv_aload hx hb dX2_isOutdated_22 (lv_at hl 0 rfl) ?_
    refine gf_Copy_known X h (hL (9, b, e, d2) ⟨by omega, by omega, by omega⟩) q98 (v := I (9, b, e, d2) 0) rfl dX2_isOutdated_24 ?_
    refine lv_if_ne (tgt := 54) hx hb dX2_isOutdated_27 (by decide) (fun c_27 => ?_) (fun c_27 => ?_)
    · skip
      refine lv_iconst (v := nI 0) hx hb dX2_isOutdated_54 (by decide) ?_
      refine x_iret X h hr (by decide) ?_ (fun _ _ => rfl) dX2_isOutdated_55
      · simp only [otd, ↓reduceIte, c_19, c_27]; rfl
    · skip
      refine lv_aload hx hb dX2_isOutdated_30 (lv_at hl 0 rfl) ?_
      refine gf_Copy_noted X h (hL (9, b, e, d2) ⟨by omega, by omega, by omega⟩) q102 (v := I (9, b, e, d2) 1) rfl dX2_isOutdated_32 ?_
      refine lv_if_eq (tgt := 54) hx hb dX2_isOutdated_35 (by decide) (fun c_35 => ?_) (fun c_35 => ?_)
      · skip
        refine lv_iconst (v := nI 0) hx hb dX2_isOutdated_54 (by decide) ?_
        refine x_iret X h hr (by decide) ?_ (fun _ _ => rfl) dX2_isOutdated_55
        · simp only [otd, ↓reduceIte, c_19, c_27, c_35]; rfl
      · skip
        refine lv_aload hx hb dX2_isOutdated_38 (lv_at hl 0 rfl) ?_
        refine gf_Copy_note X h (hL (9, b, e, d2) ⟨by omega, by omega, by omega⟩) q113 dX2_isOutdated_40 ?_
        refine lv_aload_n hx hb dX2_isOutdated_43 rfl (lv_at hl 1 rfl) ?_
        refine x_doneI X h (x_runV X h (k := (14, b, e, d2)) (m_X5_coverAll I (14, b, e, d2) (15, b, e, d2) (fun _ => rfl) (fun _ => rfl) (hL (14, b, e, d2) ⟨by omega, by omega, by omega⟩) (hL (15, b, e, d2) ⟨by omega, by omega, by omega⟩) b e d hL (by omega) (by omega) (by omega) _) F_X5_coverAll q311 q312 q313 (hL (14, b, e, d2) ⟨by omega, by omega, by omega⟩) rfl rfl rfl (by decide) (by decide) ⟨Nat.le_refl _, Nat.le_refl _⟩ hl.1 (Nat.le_of_ble_eq_true rfl) dX2_isOutdated_44 rfl) (fun H locs h => ?_)
        refine b_if_eq (tgt := 54) hx hb dX2_isOutdated_47 (by decide) (fun c_47 => ?_) (fun c_47 => ?_)
        · skip
          refine lv_iconst (v := nI 0) hx hb dX2_isOutdated_54 (by decide) ?_
          refine x_iret X h hr (by decide) ?_ (fun _ _ => rfl) dX2_isOutdated_55
          · simp only [otd, ↓reduceIte, c_19, c_27, c_35, c_47]; rfl
        · skip
          refine lv_iconst (v := nI 1) hx hb dX2_isOutdated_50 (by decide) ?_
          refine lv_goto (tgt := 55) hx hb dX2_isOutdated_51 (by decide) ?_
          refine x_iret X h hr (by decide) ?_ (fun _ _ => rfl) dX2_isOutdated_55
          · simp only [otd, ↓reduceIte, c_19, c_27, c_35, c_47]; rfl
