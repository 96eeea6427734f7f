set_option maxHeartbeats 4000000 in
set_option maxRecDepth 100000 in
theorem m_X3_isFull {l : Launch} {D : va_G} {tc : TC} {dz : Nat} {ad : KN → Nat} {Ks : List KN} {gm : GM} (I : Mem) (hL : LV gm Ks) (z : Nat) (hz5 : I (20, 0, 0, 0) 0 = nI z) (hz6 : z < 512) : MI l yX3_isFull cX3_isFull 1 (Option.some ClassFile.FieldType.boolean) 0 D tc dz ad Ks (lay tc ad gm dz I) [.ref (ad (20, 0, 0, 0))] (bI false) (lay tc ad gm dz I) := by
  intro sz
  refine x_ofW (by decide +kernel) (Nat.le_of_ble_eq_true rfl) (fun pp ee s mm bel meth cd ls X hr hin hz h hl => ?_)
  subst hz
  obtain ⟨hx, hb, hmaxL, hown, hts⟩ := id X.1
  have hl : lv_has ls 1 [(0, .ref (ad (20, 0, 0, 0)))] := hl
  refine lv_aload_n hx hb dX3_isFull_0 rfl (lv_at hl 0 rfl) ?_
  refine gf_Journal_size X h (hL (20, 0, 0, 0) ⟨by decide, rfl, rfl, rfl⟩) q169 (v := nI z) hz5 dX3_isFull_1 ?_
  refine lv_sipush (v := nI 512) hx hb dX3_isFull_4 (by decide) ?_
  refine n_icmp_lt (tgt := 14) hx hb (by omega) (by omega) dX3_isFull_7 (by decide) (fun c_7 => ?_) (fun c_7 => ?_)
  · skip
    refine lv_iconst (v := nI 0) hx hb dX3_isFull_14 (by decide) ?_
    exact x_iret X h hr (by decide) rfl (fun _ _ => rfl) dX3_isFull_15
  · skip
    exact absurd c_7 (by omega)

set_option maxHeartbeats 4000000 in
set_option maxRecDepth 100000 in
theorem m_X3_write {l : Launch} {D : va_G} {tc : TC} {dz : Nat} {ad : KN → Nat} {Ks : List KN} {gm : GM} (I : Mem) (hL : LV gm Ks) (z : Nat) (hz5 : I (20, 0, 0, 0) 0 = nI z) (hz6 : z < 512) (k a b c d : Int32) : MV l yX3_write cX3_write 6 1 D tc dz ad Ks (lay tc ad gm dz I) [.ref (ad (20, 0, 0, 0)), .int k, .int a, .int b, .int c, .int d] (lay tc ad gm dz (jwM I z k a b c d)) := by
  intro sz
  refine x_ofW (by decide +kernel) (Nat.le_of_ble_eq_true rfl) (fun pp ee s mm bel meth cd ls X hr hin hz h hl => ?_)
  subst hz
  obtain ⟨hx, hb, hmaxL, hown, hts⟩ := id X.1
  have hl : lv_has ls 6 [(0, .ref (ad (20, 0, 0, 0))), (1, .int k), (2, .int a), (3, .int b), (4, .int c), (5, .int d)] := hl
  refine lv_aload_n hx hb dX3_write_0 rfl (lv_at hl 0 rfl) ?_
  refine x_doneI X h (x_runV X h (k := (20, 0, 0, 0)) (m_X3_isFull I hL z hz5 hz6 _) F_X3_isFull q415 q407 q408 (hL (20, 0, 0, 0) ⟨by decide, rfl, rfl, rfl⟩) rfl rfl rfl (by decide) (by decide) ⟨Nat.le_refl _, Nat.le_refl _⟩ hl.1 (Nat.le_of_ble_eq_true rfl) dX3_write_1 rfl) (fun H locs h => ?_)
  refine b_if_eq (tgt := 8) hx hb dX3_write_4 (by decide) (fun _ => ?_) (fun c => (Bool.noConfusion c))
  refine lv_aload_n hx hb dX3_write_8 rfl (lv_at hl 0 rfl) ?_
  refine gf_Journal_kinds X h (hL (20, 0, 0, 0) ⟨by decide, rfl, rfl, rfl⟩) q170 dX3_write_9 ?_
  refine lv_aload_n hx hb dX3_write_12 rfl (lv_at hl 0 rfl) ?_
  refine gf_Journal_size X h (hL (20, 0, 0, 0) ⟨by decide, rfl, rfl, rfl⟩) q169 (v := nI z) hz5 dX3_write_13 ?_
  refine lv_iload_n hx hb dX3_write_16 rfl (lv_at hl 1 rfl) ?_
  refine y_ast X h (fun _ => rfl) (by decide) (hL (21, 0, 0, 0) ⟨by decide, rfl, rfl, rfl⟩) (by omega) dX3_write_17 (fun H locs h => ?_)
  refine lv_aload_n hx hb dX3_write_18 rfl (lv_at hl 0 rfl) ?_
  refine gf_Journal_firsts X h (hL (20, 0, 0, 0) ⟨by decide, rfl, rfl, rfl⟩) q171 dX3_write_19 ?_
  refine lv_aload_n hx hb dX3_write_22 rfl (lv_at hl 0 rfl) ?_
  refine gf_Journal_size X h (hL (20, 0, 0, 0) ⟨by decide, rfl, rfl, rfl⟩) q169 (v := nI z) (by rw [sset_ne _ _ (nek (by decide) : ((20, 0, 0, 0) : KN) ≠ (21, 0, 0, 0))]; exact hz5) dX3_write_23 ?_
  refine lv_iload_n hx hb dX3_write_26 rfl (lv_at hl 2 rfl) ?_
  refine y_ast X h (fun _ => rfl) (by decide) (hL (22, 0, 0, 0) ⟨by decide, rfl, rfl, rfl⟩) (by omega) dX3_write_27 (fun H locs h => ?_)
  refine lv_aload_n hx hb dX3_write_28 rfl (lv_at hl 0 rfl) ?_
  refine gf_Journal_seconds X h (hL (20, 0, 0, 0) ⟨by decide, rfl, rfl, rfl⟩) q172 dX3_write_29 ?_
  refine lv_aload_n hx hb dX3_write_32 rfl (lv_at hl 0 rfl) ?_
  refine gf_Journal_size X h (hL (20, 0, 0, 0) ⟨by decide, rfl, rfl, rfl⟩) q169 (v := nI z) (by rw [sset_ne _ _ (nek (by decide) : ((20, 0, 0, 0) : KN) ≠ (22, 0, 0, 0)), sset_ne _ _ (nek (by decide) : ((20, 0, 0, 0) : KN) ≠ (21, 0, 0, 0))]; exact hz5) dX3_write_33 ?_
  refine lv_iload_n hx hb dX3_write_36 rfl (lv_at hl 3 rfl) ?_
  refine y_ast X h (fun _ => rfl) (by decide) (hL (23, 0, 0, 0) ⟨by decide, rfl, rfl, rfl⟩) (by omega) dX3_write_37 (fun H locs h => ?_)
  refine lv_aload_n hx hb dX3_write_38 rfl (lv_at hl 0 rfl) ?_
  refine gf_Journal_thirds X h (hL (20, 0, 0, 0) ⟨by decide, rfl, rfl, rfl⟩) q173 dX3_write_39 ?_
  refine lv_aload_n hx hb dX3_write_42 rfl (lv_at hl 0 rfl) ?_
  refine gf_Journal_size X h (hL (20, 0, 0, 0) ⟨by decide, rfl, rfl, rfl⟩) q169 (v := nI z) (by rw [sset_ne _ _ (nek (by decide) : ((20, 0, 0, 0) : KN) ≠ (23, 0, 0, 0)), sset_ne _ _ (nek (by decide) : ((20, 0, 0, 0) : KN) ≠ (22, 0, 0, 0)), sset_ne _ _ (nek (by decide) : ((20, 0, 0, 0) : KN) ≠ (21, 0, 0, 0))]; exact hz5) dX3_write_43 ?_
  refine lv_iload hx hb dX3_write_46 (lv_at hl 4 rfl) ?_
  refine y_ast X h (fun _ => rfl) (by decide) (hL (24, 0, 0, 0) ⟨by decide, rfl, rfl, rfl⟩) (by omega) dX3_write_48 (fun H locs h => ?_)
  refine lv_aload_n hx hb dX3_write_49 rfl (lv_at hl 0 rfl) ?_
  refine gf_Journal_fourths X h (hL (20, 0, 0, 0) ⟨by decide, rfl, rfl, rfl⟩) q174 dX3_write_50 ?_
  refine lv_aload_n hx hb dX3_write_53 rfl (lv_at hl 0 rfl) ?_
  refine gf_Journal_size X h (hL (20, 0, 0, 0) ⟨by decide, rfl, rfl, rfl⟩) q169 (v := nI z) (by rw [sset_ne _ _ (nek (by decide) : ((20, 0, 0, 0) : KN) ≠ (24, 0, 0, 0)), sset_ne _ _ (nek (by decide) : ((20, 0, 0, 0) : KN) ≠ (23, 0, 0, 0)), sset_ne _ _ (nek (by decide) : ((20, 0, 0, 0) : KN) ≠ (22, 0, 0, 0)), sset_ne _ _ (nek (by decide) : ((20, 0, 0, 0) : KN) ≠ (21, 0, 0, 0))]; exact hz5) dX3_write_54 ?_
  refine lv_iload hx hb dX3_write_57 (lv_at hl 5 rfl) ?_
  refine y_ast X h (fun _ => rfl) (by decide) (hL (25, 0, 0, 0) ⟨by decide, rfl, rfl, rfl⟩) (by omega) dX3_write_59 (fun H locs h => ?_)
  refine lv_aload_n hx hb dX3_write_60 rfl (lv_at hl 0 rfl) ?_
  refine lv_dup hx hb dX3_write_61 rfl ?_
  refine gf_Journal_size X h (hL (20, 0, 0, 0) ⟨by decide, rfl, rfl, rfl⟩) q169 (v := nI z) (by rw [sset_ne _ _ (nek (by decide) : ((20, 0, 0, 0) : KN) ≠ (25, 0, 0, 0)), sset_ne _ _ (nek (by decide) : ((20, 0, 0, 0) : KN) ≠ (24, 0, 0, 0)), sset_ne _ _ (nek (by decide) : ((20, 0, 0, 0) : KN) ≠ (23, 0, 0, 0)), sset_ne _ _ (nek (by decide) : ((20, 0, 0, 0) : KN) ≠ (22, 0, 0, 0)), sset_ne _ _ (nek (by decide) : ((20, 0, 0, 0) : KN) ≠ (21, 0, 0, 0))]; exact hz5) dX3_write_62 ?_
  refine lv_iconst (v := nI 1) hx hb dX3_write_65 (by decide) ?_
  refine n_iadd hx hb dX3_write_66 ?_
  refine pf_Journal_size X h (hL (20, 0, 0, 0) ⟨by decide, rfl, rfl, rfl⟩) q169 dX3_write_67 (fun H locs h => ?_)
  refine x_vret X h hr (fun k _ => congrFun (congrArg (lay tc ad gm dz) ?_) k) dX3_write_70
  · simp only [jwM, sset_ne _ _ (nek (by decide) : ((22, 0, 0, 0) : KN) ≠ (21, 0, 0, 0)), sset_ne _ _ (nek (by decide) : ((23, 0, 0, 0) : KN) ≠ (21, 0, 0, 0)), sset_ne _ _ (nek (by decide) : ((23, 0, 0, 0) : KN) ≠ (22, 0, 0, 0)), sset_ne _ _ (nek (by decide) : ((24, 0, 0, 0) : KN) ≠ (21, 0, 0, 0)), sset_ne _ _ (nek (by decide) : ((24, 0, 0, 0) : KN) ≠ (22, 0, 0, 0)), sset_ne _ _ (nek (by decide) : ((24, 0, 0, 0) : KN) ≠ (23, 0, 0, 0)), sset_ne _ _ (nek (by decide) : ((25, 0, 0, 0) : KN) ≠ (21, 0, 0, 0)), sset_ne _ _ (nek (by decide) : ((25, 0, 0, 0) : KN) ≠ (22, 0, 0, 0)), sset_ne _ _ (nek (by decide) : ((25, 0, 0, 0) : KN) ≠ (23, 0, 0, 0)), sset_ne _ _ (nek (by decide) : ((25, 0, 0, 0) : KN) ≠ (24, 0, 0, 0)), sset_ne _ _ (nek (by decide) : ((20, 0, 0, 0) : KN) ≠ (21, 0, 0, 0)), sset_ne _ _ (nek (by decide) : ((20, 0, 0, 0) : KN) ≠ (22, 0, 0, 0)), sset_ne _ _ (nek (by decide) : ((20, 0, 0, 0) : KN) ≠ (23, 0, 0, 0)), sset_ne _ _ (nek (by decide) : ((20, 0, 0, 0) : KN) ≠ (24, 0, 0, 0)), sset_ne _ _ (nek (by decide) : ((20, 0, 0, 0) : KN) ≠ (25, 0, 0, 0))]

set_option maxHeartbeats 4000000 in
set_option maxRecDepth 100000 in
theorem m_X6_requireDevice {l : Launch} {D : va_G} {tc : TC} {dz : Nat} {ad : KN → Nat} {Ks : List KN} {gm : GM} (I : Mem) (d : Nat) (hd : d < 6) : MV l yX6_requireDevice cX6_requireDevice 1 1 D tc dz ad Ks (lay tc ad gm dz I) [.int (nI d)] (lay tc ad gm dz I) := by
  intro sz
  refine x_ofW (by decide +kernel) (Nat.le_of_ble_eq_true rfl) (fun pp ee s mm bel meth cd ls X hr hin hz h hl => ?_)
  subst hz
  obtain ⟨hx, hb, hmaxL, hown, hts⟩ := id X.1
  have hl : lv_has ls 1 [(0, .int (nI d))] := hl
  refine lv_iload_n hx hb dX6_requireDevice_0 rfl (lv_at hl 0 rfl) ?_
  refine x_doneI X h (x_runS X h (m_X6_isDevice_in I d (by omega) _) F_X6_isDevice q205 q206 rfl (by decide) (by decide) ⟨Nat.le_refl _, Nat.le_refl _⟩ hl.1 (Nat.le_of_ble_eq_true rfl) dX6_requireDevice_1 rfl) (fun H locs h => ?_)
  refine b_if_ne (tgt := 17) hx hb dX6_requireDevice_4 (by decide) (fun _ => ?_) (fun c => (Bool.noConfusion c))
  exact x_vret X h hr (fun _ _ => rfl) dX6_requireDevice_17

set_option maxHeartbeats 4000000 in
set_option maxRecDepth 100000 in
theorem x_X6_requireDevice {l : Launch} {D : va_G} {tc : TC} {dz : Nat} {ad : KN → Nat} {Ks : List KN} {gm : GM} (I : Mem) (hst : l.stackTraces = false) (x : Int32) (h0 : isDev x = false) : MX l yX6_requireDevice cX6_requireDevice 1 (Option.none : Option ClassFile.FieldType) 6 D tc dz ad Ks (lay tc ad gm dz I) [.int x] exI := by
  intro sz
  refine x_ofX (by decide +kernel) (Nat.le_of_ble_eq_true rfl) (fun pp ee s mm bel meth cd ls X htab hz h hl => ?_)
  subst hz
  obtain ⟨hx, hb, hmaxL, hown, hts⟩ := id X.1
  have hl : lv_has ls 1 [(0, .int x)] := hl
  refine lv_iload_n hx hb dX6_requireDevice_0 rfl (lv_at hl 0 rfl) ?_
  refine x_doneI X h (x_runS X h (m_X6_isDevice I x _) F_X6_isDevice q205 q206 rfl (by decide) (by decide) ⟨by decide, by decide⟩ hl.1 (Nat.le_of_ble_eq_true rfl) dX6_requireDevice_1 rfl) (fun H locs h => ?_)
  refine b_if_ne (tgt := 17) hx hb dX6_requireDevice_4 (by decide) (fun c => by rw [h0] at c; cases c) (fun _ => ?_)
  exact x_throw X h hst EX_I t249 hl.1 htab dX6_requireDevice_7 dX6_requireDevice_10 dX6_requireDevice_11 dX6_requireDevice_13 dX6_requireDevice_16 (by decide) (by decide) (by decide) (by decide) (by decide) (by decide)

set_option maxHeartbeats 4000000 in
set_option maxRecDepth 100000 in
theorem m_X6_requireField {l : Launch} {D : va_G} {tc : TC} {dz : Nat} {ad : KN → Nat} {Ks : List KN} {gm : GM} (I : Mem) (f : Nat) (hf : f < 4) : MV l yX6_requireField cX6_requireField 1 1 D tc dz ad Ks (lay tc ad gm dz I) [.int (nI f)] (lay tc ad gm dz I) := by
  intro sz
  refine x_ofW (by decide +kernel) (Nat.le_of_ble_eq_true rfl) (fun pp ee s mm bel meth cd ls X hr hin hz h hl => ?_)
  subst hz
  obtain ⟨hx, hb, hmaxL, hown, hts⟩ := id X.1
  have hl : lv_has ls 1 [(0, .int (nI f))] := hl
  refine lv_iload_n hx hb dX6_requireField_0 rfl (lv_at hl 0 rfl) ?_
  refine x_doneI X h (x_runS X h (m_X6_isField_in I f (by omega) _) F_X6_isField q437 q438 rfl (by decide) (by decide) ⟨Nat.le_refl _, Nat.le_refl _⟩ hl.1 (Nat.le_of_ble_eq_true rfl) dX6_requireField_1 rfl) (fun H locs h => ?_)
  refine b_if_ne (tgt := 17) hx hb dX6_requireField_4 (by decide) (fun _ => ?_) (fun c => (Bool.noConfusion c))
  exact x_vret X h hr (fun _ _ => rfl) dX6_requireField_17

set_option maxHeartbeats 4000000 in
set_option maxRecDepth 100000 in
theorem x_X6_requireField {l : Launch} {D : va_G} {tc : TC} {dz : Nat} {ad : KN → Nat} {Ks : List KN} {gm : GM} (I : Mem) (hst : l.stackTraces = false) (x : Int32) (h0 : isFld x = false) : MX l yX6_requireField cX6_requireField 1 (Option.none : Option ClassFile.FieldType) 6 D tc dz ad Ks (lay tc ad gm dz I) [.int x] exI := by
  intro sz
  refine x_ofX (by decide +kernel) (Nat.le_of_ble_eq_true rfl) (fun pp ee s mm bel meth cd ls X htab hz h hl => ?_)
  subst hz
  obtain ⟨hx, hb, hmaxL, hown, hts⟩ := id X.1
  have hl : lv_has ls 1 [(0, .int x)] := hl
  refine lv_iload_n hx hb dX6_requireField_0 rfl (lv_at hl 0 rfl) ?_
  refine x_doneI X h (x_runS X h (m_X6_isField I x _) F_X6_isField q437 q438 rfl (by decide) (by decide) ⟨by decide, by decide⟩ hl.1 (Nat.le_of_ble_eq_true rfl) dX6_requireField_1 rfl) (fun H locs h => ?_)
  refine b_if_ne (tgt := 17) hx hb dX6_requireField_4 (by decide) (fun c => by rw [h0] at c; cases c) (fun _ => ?_)
  exact x_throw X h hst EX_I t440 hl.1 htab dX6_requireField_7 dX6_requireField_10 dX6_requireField_11 dX6_requireField_13 dX6_requireField_16 (by decide) (by decide) (by decide) (by decide) (by decide) (by decide)

set_option maxHeartbeats 4000000 in
set_option maxRecDepth 100000 in
theorem m_X6_requireOwner {l : Launch} {D : va_G} {tc : TC} {dz : Nat} {ad : KN → Nat} {Ks : List KN} {gm : GM} (I : Mem) (b e d : Nat) (hL : LV gm Ks) (hb2 : b < 2) (he : e < 10) (hd : d < 6) (how : I (4, b, e, 0) 0 = nI (d / 2)) : MV l yX6_requireOwner cX6_requireOwner 2 1 D tc dz ad Ks (lay tc ad gm dz I) [.ref (ad (4, b, e, 0)), .int (nI d)] (lay tc ad gm dz I) := by
  intro sz
  refine x_ofW (by decide +kernel) (Nat.le_of_ble_eq_true rfl) (fun pp ee s mm bel meth cd ls X hr hin hz h hl => ?_)
  subst hz
  obtain ⟨hx, hb, hmaxL, hown, hts⟩ := id X.1
  have hl : lv_has ls 2 [(0, .ref (ad (4, b, e, 0))), (1, .int (nI d))] := hl
  refine lv_aload_n hx hb dX6_requireOwner_0 rfl (lv_at hl 0 rfl) ?_
  refine gf_Entry_owner X h (hL (4, b, e, 0) ⟨by omega, by omega, rfl⟩) q129 (v := I (4, b, e, 0) 0) rfl dX6_requireOwner_1 ?_
  refine lv_iload_n hx hb dX6_requireOwner_4 rfl (lv_at hl 1 rfl) ?_
  refine x_doneI X h (x_runS X h (m_X6_personOf I d (by omega) _) F_X6_personOf q483 q348 rfl (by decide) (by decide) ⟨Nat.le_refl _, Nat.le_refl _⟩ hl.1 (Nat.le_of_ble_eq_true rfl) dX6_requireOwner_5 rfl) (fun H locs h => ?_)
  refine lv_icmp_eq (tgt := 21) hx hb dX6_requireOwner_8 (by decide) (fun c_8 => ?_) (fun c_8 => ?_)
  · skip
    exact x_vret X h hr (fun _ _ => rfl) dX6_requireOwner_21
  · skip
    exact absurd how c_8

set_option maxHeartbeats 4000000 in
set_option maxRecDepth 100000 in
theorem x_X6_requireOwner {l : Launch} {D : va_G} {tc : TC} {dz : Nat} {ad : KN → Nat} {Ks : List KN} {gm : GM} (I : Mem) (hst : l.stackTraces = false) (b e d : Nat) (hL : LV gm Ks) (hb2 : b < 2) (he : e < 10) (hd : d < 6) (how : I (4, b, e, 0) 0 ≠ nI (d / 2)) : MX l yX6_requireOwner cX6_requireOwner 2 (Option.none : Option ClassFile.FieldType) 6 D tc dz ad Ks (lay tc ad gm dz I) [.ref (ad (4, b, e, 0)), .int (nI d)] exS := by
  intro sz
  refine x_ofX (by decide +kernel) (Nat.le_of_ble_eq_true rfl) (fun pp ee s mm bel meth cd ls X htab hz h hl => ?_)
  subst hz
  obtain ⟨hx, hb, hmaxL, hown, hts⟩ := id X.1
  have hl : lv_has ls 2 [(0, .ref (ad (4, b, e, 0))), (1, .int (nI d))] := hl
  refine lv_aload_n hx hb dX6_requireOwner_0 rfl (lv_at hl 0 rfl) ?_
  refine gf_Entry_owner X h (hL (4, b, e, 0) ⟨by omega, by omega, rfl⟩) q129 (v := I (4, b, e, 0) 0) rfl dX6_requireOwner_1 ?_
  refine lv_iload_n hx hb dX6_requireOwner_4 rfl (lv_at hl 1 rfl) ?_
  refine x_doneI X h (x_runS X h (m_X6_personOf I d (by omega) _) F_X6_personOf q483 q348 rfl (by decide) (by decide) ⟨by decide, by decide⟩ hl.1 (Nat.le_of_ble_eq_true rfl) dX6_requireOwner_5 rfl) (fun H locs h => ?_)
  refine lv_icmp_eq (tgt := 21) hx hb dX6_requireOwner_8 (by decide) (fun c_8 => ?_) (fun c_8 => ?_)
  · skip
    exact absurd c_8 how
  · skip
    exact x_throw X h hst EX_S t484 hl.1 htab dX6_requireOwner_11 dX6_requireOwner_14 dX6_requireOwner_15 dX6_requireOwner_17 dX6_requireOwner_20 (by decide) (by decide) (by decide) (by decide) (by decide) (by decide)

set_option maxHeartbeats 4000000 in
set_option maxRecDepth 100000 in
theorem m_X6_requireRoomInJournal {l : Launch} {D : va_G} {tc : TC} {dz : Nat} {ad : KN → Nat} {Ks : List KN} {gm : GM} (I : Mem) (hL : LV gm Ks) (z : Nat) (hz5 : I (20, 0, 0, 0) 0 = nI z) (hz6 : z < 512) : MV l yX6_requireRoomInJournal cX6_requireRoomInJournal 1 1 D tc dz ad Ks (lay tc ad gm dz I) [.ref (ad (0, 0, 0, 0))] (lay tc ad gm dz I) := by
  intro sz
  refine x_ofW (by decide +kernel) (Nat.le_of_ble_eq_true rfl) (fun pp ee s mm bel meth cd ls X hr hin hz h hl => ?_)
  subst hz
  obtain ⟨hx, hb, hmaxL, hown, hts⟩ := id X.1
  have hl : lv_has ls 1 [(0, .ref (ad (0, 0, 0, 0)))] := hl
  refine lv_aload_n hx hb dX6_requireRoomInJournal_0 rfl (lv_at hl 0 rfl) ?_
  refine gf_BraidBook_journal X h (hL (0, 0, 0, 0) ⟨rfl, rfl, rfl⟩) q190 dX6_requireRoomInJournal_1 ?_
  refine x_doneI X h (x_runV X h (k := (20, 0, 0, 0)) (m_X3_isFull I hL z hz5 hz6 _) F_X3_isFull q406 q407 q408 (hL (20, 0, 0, 0) ⟨by decide, rfl, rfl, rfl⟩) rfl rfl rfl (by decide) (by decide) ⟨Nat.le_refl _, Nat.le_refl _⟩ hl.1 (Nat.le_of_ble_eq_true rfl) dX6_requireRoomInJournal_4 rfl) (fun H locs h => ?_)
  refine b_if_eq (tgt := 20) hx hb dX6_requireRoomInJournal_7 (by decide) (fun _ => ?_) (fun c => (Bool.noConfusion c))
  exact x_vret X h hr (fun _ _ => rfl) dX6_requireRoomInJournal_20

set_option maxHeartbeats 4000000 in
set_option maxRecDepth 100000 in
theorem m_X6_knownEntry {l : Launch} {D : va_G} {tc : TC} {dz : Nat} {ad : KN → Nat} {Ks : List KN} {gm : GM} (I : Mem) (b : Nat) (hL : LV gm Ks) (hG : GMok gm) (hb2 : b < 2) (n : Nat) (mcs : Nat → Nat) (hB : BK gm I b n mcs) (d e : Nat) (hd : d < 6) (he : e < n) (hk : nz (I (9, b, e, d) 0) = true) : MR l yX6_knownEntry cX6_knownEntry 4 (Option.some (ClassFile.FieldType.object "BraidBook$Entry")) 2 D tc dz ad Ks (lay tc ad gm dz I) [.ref (ad (1, b, 0, 0)), .int (nI d), .int (nI e)] (some (ad (4, b, e, 0))) (lay tc ad gm dz I) := by
  intro sz
  obtain ⟨hn, hn10, hmk⟩ := id hB
  refine x_ofW (by decide +kernel) (Nat.le_of_ble_eq_true rfl) (fun pp ee s mm bel meth cd ls X hr hin hz h hl => ?_)
  subst hz
  obtain ⟨hx, hb, hmaxL, hown, hts⟩ := id X.1
  have hl : lv_has ls 4 [(0, .ref (ad (1, b, 0, 0))), (1, .int (nI d)), (2, .int (nI e))] := hl
  refine lv_iload_n hx hb dX6_knownEntry_0 rfl (lv_at hl 1 rfl) ?_
  refine x_doneV X h (x_runS X h (m_X6_requireDevice I d (by omega) _) F_X6_requireDevice q202 q203 rfl (by decide) (by decide) ⟨Nat.le_refl _, Nat.le_refl _⟩ hl.1 (Nat.le_of_ble_eq_true rfl) dX6_knownEntry_1 rfl) (fun H locs h => ?_)
  refine lv_aload_n hx hb dX6_knownEntry_4 rfl (lv_at hl 0 rfl) ?_
  refine lv_iload_n hx hb dX6_knownEntry_5 rfl (lv_at hl 2 rfl) ?_
  refine x_doneA X h (x_runV X h (k := (1, b, 0, 0)) (m_X0_find_in I b hL hG (by omega) n mcs hB e (by omega) _) F_X0_find q429 q430 q431 (hL (1, b, 0, 0) ⟨by omega, rfl, rfl⟩) rfl rfl rfl (by decide) (by decide) ⟨Nat.le_refl _, Nat.le_refl _⟩ hl.1 (Nat.le_of_ble_eq_true rfl) dX6_knownEntry_6 rfl) (fun H locs h => ?_)
  refine lv_astore_n (lv' := [(3, .ref (ad (4, b, e, 0))), (0, .ref (ad (1, b, 0, 0))), (1, .int (nI d)), (2, .int (nI e))]) hx hb dX6_knownEntry_9 rfl hl (by decide) rfl (fun ls hl => ?_)
  refine lv_aload_n hx hb dX6_knownEntry_10 rfl (lv_at hl 0 rfl) ?_
  refine lv_ifnull hx hb dX6_knownEntry_11 ?_
  refine lv_aload_n hx hb dX6_knownEntry_14 rfl (lv_at hl 0 rfl) ?_
  refine gf_Entry_copies X h (hL (4, b, e, 0) ⟨by omega, by omega, rfl⟩) q135 dX6_knownEntry_15 ?_
  refine lv_iload_n hx hb dX6_knownEntry_18 rfl (lv_at hl 2 rfl) ?_
  refine ra_copies X h (hL (6, b, e, 0) ⟨by omega, by omega, rfl⟩) (j := d) (by omega) dX6_knownEntry_19 ?_
  refine gf_Copy_known X h (hL (9, b, e, d) ⟨by omega, by omega, by omega⟩) q100 (v := I (9, b, e, d) 0) rfl dX6_knownEntry_20 ?_
  refine lv_if_ne (tgt := 36) hx hb dX6_knownEntry_23 (by decide) (fun c_23 => ?_) (fun c_23 => ?_)
  · skip
    refine lv_aload_n hx hb dX6_knownEntry_36 rfl (lv_at hl 0 rfl) ?_
    exact x_aret X h hr (Or.inl ⟨_, rfl⟩) rfl (fun _ _ => rfl) dX6_knownEntry_37
  · skip
    exact absurd c_23 (nz_t hk)

set_option maxHeartbeats 4000000 in
set_option maxRecDepth 100000 in
theorem x_X6_knownEntry_a {l : Launch} {D : va_G} {tc : TC} {dz : Nat} {ad : KN → Nat} {Ks : List KN} {gm : GM} (I : Mem) (hst : l.stackTraces = false) (b : Nat) (hL : LV gm Ks) (hG : GMok gm) (hb2 : b < 2) (n : Nat) (mcs : Nat → Nat) (hB : BK gm I b n mcs) (x y : Int32) (h0 : isDev x = false) : MX l yX6_knownEntry cX6_knownEntry 4 (Option.some (ClassFile.FieldType.object "BraidBook$Entry")) 7 D tc dz ad Ks (lay tc ad gm dz I) [.ref (ad (1, b, 0, 0)), .int x, .int y] exI := by
  intro sz
  obtain ⟨hn, hn10, hmk⟩ := id hB
  refine x_ofX (by decide +kernel) (Nat.le_of_ble_eq_true rfl) (fun pp ee s mm bel meth cd ls X htab hz h hl => ?_)
  subst hz
  obtain ⟨hx, hb, hmaxL, hown, hts⟩ := id X.1
  have hl : lv_has ls 4 [(0, .ref (ad (1, b, 0, 0))), (1, .int x), (2, .int y)] := hl
  refine lv_iload_n hx hb dX6_knownEntry_0 rfl (lv_at hl 1 rfl) ?_
  refine x_xdone X h (x_xrunS X h (x_X6_requireDevice I hst x h0 _) F_X6_requireDevice q202 q203 rfl (by decide) (by decide) ⟨by decide, by decide⟩ hl.1 (Nat.le_of_ble_eq_true rfl) dX6_knownEntry_1 rfl) (fun ce q9 H locs h hce hcv hcl => ?_)
  exact x_xout X h htab hce hcv hcl (by decide) (by decide)

set_option maxHeartbeats 4000000 in
set_option maxRecDepth 100000 in
theorem x_X6_knownEntry_b {l : Launch} {D : va_G} {tc : TC} {dz : Nat} {ad : KN → Nat} {Ks : List KN} {gm : GM} (I : Mem) (hst : l.stackTraces = false) (b : Nat) (hL : LV gm Ks) (hG : GMok gm) (hb2 : b < 2) (n : Nat) (mcs : Nat → Nat) (hB : BK gm I b n mcs) (d : Nat) (hd : d < 6) (y : Int32) (hx0 : y < 0 ∨ nI n ≤ y) : MX l yX6_knownEntry cX6_knownEntry 4 (Option.some (ClassFile.FieldType.object "BraidBook$Entry")) 7 D tc dz ad Ks (lay tc ad gm dz I) [.ref (ad (1, b, 0, 0)), .int (nI d), .int y] exI := by
  intro sz
  obtain ⟨hn, hn10, hmk⟩ := id hB
  refine x_ofX (by decide +kernel) (Nat.le_of_ble_eq_true rfl) (fun pp ee s mm bel meth cd ls X htab hz h hl => ?_)
  subst hz
  obtain ⟨hx, hb, hmaxL, hown, hts⟩ := id X.1
  have hl : lv_has ls 4 [(0, .ref (ad (1, b, 0, 0))), (1, .int (nI d)), (2, .int y)] := hl
  refine lv_iload_n hx hb dX6_knownEntry_0 rfl (lv_at hl 1 rfl) ?_
  refine x_doneV X h (x_runS X h (m_X6_requireDevice I d (by omega) _) F_X6_requireDevice q202 q203 rfl (by decide) (by decide) ⟨by decide, by decide⟩ hl.1 (Nat.le_of_ble_eq_true rfl) dX6_knownEntry_1 rfl) (fun H locs h => ?_)
  refine lv_aload_n hx hb dX6_knownEntry_4 rfl (lv_at hl 0 rfl) ?_
  refine lv_iload_n hx hb dX6_knownEntry_5 rfl (lv_at hl 2 rfl) ?_
  refine x_doneR X h (x_runV X h (k := (1, b, 0, 0)) (m_X0_find_out I b hL hG (by omega) n mcs hB y hx0 _) F_X0_find q429 q430 q431 (hL (1, b, 0, 0) ⟨by omega, rfl, rfl⟩) rfl rfl rfl (by decide) (by decide) ⟨by decide, by decide⟩ hl.1 (Nat.le_of_ble_eq_true rfl) dX6_knownEntry_6 rfl) (fun H locs h => ?_)
  refine lv_astore_nN (lv' := [(3, .null), (0, .ref (ad (1, b, 0, 0))), (1, .int (nI d)), (2, .int y)]) hx hb dX6_knownEntry_9 rfl hl (by decide) rfl (fun ls hl => ?_)
  refine lv_aload_nN hx hb dX6_knownEntry_10 rfl (lv_at hl 0 rfl) ?_
  refine lv_ifnullN (tgt := 26) hx hb dX6_knownEntry_11 (by decide) ?_
  exact x_throw X h hst EX_I t433 hl.1 htab dX6_knownEntry_26 dX6_knownEntry_29 dX6_knownEntry_30 dX6_knownEntry_32 dX6_knownEntry_35 (by decide) (by decide) (by decide) (by decide) (by decide) (by decide)

set_option maxHeartbeats 4000000 in
set_option maxRecDepth 100000 in
theorem x_X6_knownEntry_c {l : Launch} {D : va_G} {tc : TC} {dz : Nat} {ad : KN → Nat} {Ks : List KN} {gm : GM} (I : Mem) (hst : l.stackTraces = false) (b : Nat) (hL : LV gm Ks) (hG : GMok gm) (hb2 : b < 2) (n : Nat) (mcs : Nat → Nat) (hB : BK gm I b n mcs) (d e : Nat) (hd : d < 6) (he : e < n) (hk : I (9, b, e, d) 0 = 0) : MX l yX6_knownEntry cX6_knownEntry 4 (Option.some (ClassFile.FieldType.object "BraidBook$Entry")) 7 D tc dz ad Ks (lay tc ad gm dz I) [.ref (ad (1, b, 0, 0)), .int (nI d), .int (nI e)] exI := by
  intro sz
  obtain ⟨hn, hn10, hmk⟩ := id hB
  refine x_ofX (by decide +kernel) (Nat.le_of_ble_eq_true rfl) (fun pp ee s mm bel meth cd ls X htab hz h hl => ?_)
  subst hz
  obtain ⟨hx, hb, hmaxL, hown, hts⟩ := id X.1
  have hl : lv_has ls 4 [(0, .ref (ad (1, b, 0, 0))), (1, .int (nI d)), (2, .int (nI e))] := hl
  refine lv_iload_n hx hb dX6_knownEntry_0 rfl (lv_at hl 1 rfl) ?_
  refine x_doneV X h (x_runS X h (m_X6_requireDevice I d (by omega) _) F_X6_requireDevice q202 q203 rfl (by decide) (by decide) ⟨by decide, by decide⟩ hl.1 (Nat.le_of_ble_eq_true rfl) dX6_knownEntry_1 rfl) (fun H locs h => ?_)
  refine lv_aload_n hx hb dX6_knownEntry_4 rfl (lv_at hl 0 rfl) ?_
  refine lv_iload_n hx hb dX6_knownEntry_5 rfl (lv_at hl 2 rfl) ?_
  refine x_doneA X h (x_runV X h (k := (1, b, 0, 0)) (m_X0_find_in I b hL hG (by omega) n mcs hB e (by omega) _) F_X0_find q429 q430 q431 (hL (1, b, 0, 0) ⟨by omega, rfl, rfl⟩) rfl rfl rfl (by decide) (by decide) ⟨by decide, by decide⟩ hl.1 (Nat.le_of_ble_eq_true rfl) dX6_knownEntry_6 rfl) (fun H locs h => ?_)
  refine lv_astore_n (lv' := [(3, .ref (ad (4, b, e, 0))), (0, .ref (ad (1, b, 0, 0))), (1, .int (nI d)), (2, .int (nI e))]) hx hb dX6_knownEntry_9 rfl hl (by decide) rfl (fun ls hl => ?_)
  refine lv_aload_n hx hb dX6_knownEntry_10 rfl (lv_at hl 0 rfl) ?_
  refine lv_ifnull hx hb dX6_knownEntry_11 ?_
  refine lv_aload_n hx hb dX6_knownEntry_14 rfl (lv_at hl 0 rfl) ?_
  refine gf_Entry_copies X h (hL (4, b, e, 0) ⟨by omega, by omega, rfl⟩) q135 dX6_knownEntry_15 ?_
  refine lv_iload_n hx hb dX6_knownEntry_18 rfl (lv_at hl 2 rfl) ?_
  refine ra_copies X h (hL (6, b, e, 0) ⟨by omega, by omega, rfl⟩) (j := d) (by omega) dX6_knownEntry_19 ?_
  refine gf_Copy_known X h (hL (9, b, e, d) ⟨by omega, by omega, by omega⟩) q100 (v := I (9, b, e, d) 0) rfl dX6_knownEntry_20 ?_
  refine lv_if_ne (tgt := 36) hx hb dX6_knownEntry_23 (by decide) (fun c_23 => ?_) (fun c_23 => ?_)
  · skip
    exact absurd hk c_23
  · skip
    exact x_throw X h hst EX_I t433 hl.1 htab dX6_knownEntry_26 dX6_knownEntry_29 dX6_knownEntry_30 dX6_knownEntry_32 dX6_knownEntry_35 (by decide) (by decide) (by decide) (by decide) (by decide) (by decide)

theorem x_X6_knownEntry {l : Launch} {D : va_G} {tc : TC} {dz : Nat} {ad : KN → Nat} {Ks : List KN} {gm : GM} (I : Mem) (hst : l.stackTraces = false) (b : Nat) (hL : LV gm Ks) (hG : GMok gm) (hb2 : b < 2) (n : Nat) (mcs : Nat → Nat) (hB : BK gm I b n mcs) (x y : Int32) (h0 : ckn I b n x y = false) : MX l yX6_knownEntry cX6_knownEntry 4 (Option.some (ClassFile.FieldType.object "BraidBook$Entry")) 7 D tc dz ad Ks (lay tc ad gm dz I) [.ref (ad (1, b, 0, 0)), .int x, .int y] exI := by
  rcases cond_ckn hB.2.1 h0 with h1 | ⟨d, hd, rfl, h1 | ⟨e, he, rfl, h1⟩⟩
  · exact x_X6_knownEntry_a I hst b hL hG hb2 n mcs hB x y h1
  · exact x_X6_knownEntry_b I hst b hL hG hb2 n mcs hB d hd y h1
  · exact x_X6_knownEntry_c I hst b hL hG hb2 n mcs hB d e hd he h1

set_option maxHeartbeats 4000000 in
set_option maxRecDepth 100000 in
theorem m_X6_valueIn {l : Launch} {D : va_G} {tc : TC} {dz : Nat} {ad : KN → Nat} {Ks : List KN} {gm : GM} (I : Mem) (b : Nat) (hL : LV gm Ks) (hG : GMok gm) (hb2 : b < 2) (n : Nat) (mcs : Nat → Nat) (hB : BK gm I b n mcs) (d e f : Nat) (hd : d < 6) (he : e < n) (hf : f < 4) (hk : nz (I (9, b, e, d) 0) = true) (j : Nat) (hj : j < cvF (I (10, b, e, d)) f) : MI l yX6_valueIn cX6_valueIn 7 (Option.some ClassFile.FieldType.int) 3 D tc dz ad Ks (lay tc ad gm dz I) [.ref (ad (1, b, 0, 0)), .int (nI d), .int (nI e), .int (nI f), .int (nI j)] (vFrom (I (10, b, e, d)) (I (11, b, e, d)) f 6 0 j) (lay tc ad gm dz I) := by
  intro sz
  obtain ⟨hn, hn10, hmk⟩ := id hB; have hcvl := cvF_le (I (10, b, e, d)) f
  refine x_ofW (by decide +kernel) (Nat.le_of_ble_eq_true rfl) (fun pp ee s mm bel meth cd ls X hr hin hz h hl => ?_)
  subst hz
  obtain ⟨hx, hb, hmaxL, hown, hts⟩ := id X.1
  have hl : lv_has ls 7 [(0, .ref (ad (1, b, 0, 0))), (1, .int (nI d)), (2, .int (nI e)), (3, .int (nI f)), (4, .int (nI j))] := hl
  refine lv_aload_n hx hb dX6_valueIn_0 rfl (lv_at hl 0 rfl) ?_
  refine lv_iload_n hx hb dX6_valueIn_1 rfl (lv_at hl 1 rfl) ?_
  refine lv_iload_n hx hb dX6_valueIn_2 rfl (lv_at hl 2 rfl) ?_
  refine x_doneA X h (x_runS X h (m_X6_knownEntry I b hL hG (by omega) n mcs hB d e (by omega) (by omega) hk _) F_X6_knownEntry q426 q427 rfl (by decide) (by decide) ⟨Nat.le_refl _, Nat.le_refl _⟩ hl.1 (Nat.le_of_ble_eq_true rfl) dX6_valueIn_3 rfl) (fun H locs h => ?_)
  refine lv_astore (lv' := [(5, .ref (ad (4, b, e, 0))), (0, .ref (ad (1, b, 0, 0))), (1, .int (nI d)), (2, .int (nI e)), (3, .int (nI f)), (4, .int (nI j))]) hx hb dX6_valueIn_6 hl (by decide) rfl (fun ls hl => ?_)
  refine lv_iload_n hx hb dX6_valueIn_8 rfl (lv_at hl 4 rfl) ?_
  refine x_doneV X h (x_runS X h (m_X6_requireField I f (by omega) _) F_X6_requireField q434 q435 rfl (by decide) (by decide) ⟨Nat.le_refl _, Nat.le_refl _⟩ hl.1 (Nat.le_of_ble_eq_true rfl) dX6_valueIn_9 rfl) (fun H locs h => ?_)
  refine lv_aload hx hb dX6_valueIn_12 (lv_at hl 0 rfl) ?_
  refine gf_Entry_copies X h (hL (4, b, e, 0) ⟨by omega, by omega, rfl⟩) q135 dX6_valueIn_14 ?_
  refine lv_iload_n hx hb dX6_valueIn_17 rfl (lv_at hl 2 rfl) ?_
  refine ra_copies X h (hL (6, b, e, 0) ⟨by omega, by omega, rfl⟩) (j := d) (by omega) dX6_valueIn_18 ?_
  refine lv_astore (lv' := [(6, .ref (ad (9, b, e, d))), (5, .ref (ad (4, b, e, 0))), (0, .ref (ad (1, b, 0, 0))), (1, .int (nI d)), (2, .int (nI e)), (3, .int (nI f)), (4, .int (nI j))]) hx hb dX6_valueIn_19 hl (by decide) rfl (fun ls hl => ?_)
  refine lv_iload hx hb dX6_valueIn_21 (lv_at hl 6 rfl) ?_
  refine lv_if_lt (tgt := 37) hx hb dX6_valueIn_23 (by decide) (fun c_23 => ?_) (fun c_23 => ?_)
  · skip
    exact absurd c_23 (nI_pos (by omega))
  · skip
    refine lv_iload hx hb dX6_valueIn_26 (lv_at hl 6 rfl) ?_
    refine lv_aload hx hb dX6_valueIn_28 (lv_at hl 0 rfl) ?_
    refine lv_iload_n hx hb dX6_valueIn_30 rfl (lv_at hl 5 rfl) ?_
    refine x_doneI X h (x_runV X h (k := (9, b, e, d)) (m_X1_countValues I b e d hL (by omega) (by omega) (by omega) f (by omega) _) F_X1_countValues q682 q324 q325 (hL (9, b, e, d) ⟨by omega, by omega, by omega⟩) rfl rfl rfl (by decide) (by decide) ⟨Nat.le_refl _, Nat.le_refl _⟩ hl.1 (Nat.le_of_ble_eq_true rfl) dX6_valueIn_31 rfl) (fun H locs h => ?_)
    refine n_icmp_lt (tgt := 47) hx hb (by omega) (by omega) dX6_valueIn_34 (by decide) (fun c_34 => ?_) (fun c_34 => ?_)
    · skip
      refine lv_aload hx hb dX6_valueIn_47 (lv_at hl 0 rfl) ?_
      refine lv_iload_n hx hb dX6_valueIn_49 rfl (lv_at hl 5 rfl) ?_
      refine lv_iload hx hb dX6_valueIn_50 (lv_at hl 6 rfl) ?_
      refine x_doneI X h (x_runV X h (k := (9, b, e, d)) (m_X1_valueAt I b e d hL (by omega) (by omega) (by omega) f j (by omega) (by omega) _) F_X1_valueAt q684 q685 q686 (hL (9, b, e, d) ⟨by omega, by omega, by omega⟩) rfl rfl rfl (by decide) (by decide) ⟨Nat.le_refl _, Nat.le_refl _⟩ hl.1 (Nat.le_of_ble_eq_true rfl) dX6_valueIn_52 rfl) (fun H locs h => ?_)
      exact x_iret X h hr rfl rfl (fun _ _ => rfl) dX6_valueIn_55
    · skip
      exact absurd c_34 (by omega)

set_option maxHeartbeats 4000000 in
set_option maxRecDepth 100000 in
theorem x_X6_valueIn_a {l : Launch} {D : va_G} {tc : TC} {dz : Nat} {ad : KN → Nat} {Ks : List KN} {gm : GM} (I : Mem) (hst : l.stackTraces = false) (b : Nat) (hL : LV gm Ks) (hG : GMok gm) (hb2 : b < 2) (n : Nat) (mcs : Nat → Nat) (hB : BK gm I b n mcs) (x y u w : Int32) (h0 : ckn I b n x y = false) : MX l yX6_valueIn cX6_valueIn 7 (Option.some ClassFile.FieldType.int) 8 D tc dz ad Ks (lay tc ad gm dz I) [.ref (ad (1, b, 0, 0)), .int x, .int y, .int u, .int w] exI := by
  intro sz
  obtain ⟨hn, hn10, hmk⟩ := id hB
  refine x_ofX (by decide +kernel) (Nat.le_of_ble_eq_true rfl) (fun pp ee s mm bel meth cd ls X htab hz h hl => ?_)
  subst hz
  obtain ⟨hx, hb, hmaxL, hown, hts⟩ := id X.1
  have hl : lv_has ls 7 [(0, .ref (ad (1, b, 0, 0))), (1, .int x), (2, .int y), (3, .int u), (4, .int w)] := hl
  refine lv_aload_n hx hb dX6_valueIn_0 rfl (lv_at hl 0 rfl) ?_
  refine lv_iload_n hx hb dX6_valueIn_1 rfl (lv_at hl 1 rfl) ?_
  refine lv_iload_n hx hb dX6_valueIn_2 rfl (lv_at hl 2 rfl) ?_
  refine x_xdone X h (x_xrunS X h (x_X6_knownEntry I hst b hL hG hb2 n mcs hB x y h0 _) F_X6_knownEntry q426 q427 rfl (by decide) (by decide) ⟨by decide, by decide⟩ hl.1 (Nat.le_of_ble_eq_true rfl) dX6_valueIn_3 rfl) (fun ce q9 H locs h hce hcv hcl => ?_)
  exact x_xout X h htab hce hcv hcl (by decide) (by decide)

set_option maxHeartbeats 4000000 in
set_option maxRecDepth 100000 in
theorem x_X6_valueIn_b {l : Launch} {D : va_G} {tc : TC} {dz : Nat} {ad : KN → Nat} {Ks : List KN} {gm : GM} (I : Mem) (hst : l.stackTraces = false) (b : Nat) (hL : LV gm Ks) (hG : GMok gm) (hb2 : b < 2) (n : Nat) (mcs : Nat → Nat) (hB : BK gm I b n mcs) (d e : Nat) (hd : d < 6) (he : e < n) (hk : nz (I (9, b, e, d) 0) = true) (u w : Int32) (h0 : isFld u = false) : MX l yX6_valueIn cX6_valueIn 7 (Option.some ClassFile.FieldType.int) 8 D tc dz ad Ks (lay tc ad gm dz I) [.ref (ad (1, b, 0, 0)), .int (nI d), .int (nI e), .int u, .int w] exI := by
  intro sz
  obtain ⟨hn, hn10, hmk⟩ := id hB
  refine x_ofX (by decide +kernel) (Nat.le_of_ble_eq_true rfl) (fun pp ee s mm bel meth cd ls X htab hz h hl => ?_)
  subst hz
  obtain ⟨hx, hb, hmaxL, hown, hts⟩ := id X.1
  have hl : lv_has ls 7 [(0, .ref (ad (1, b, 0, 0))), (1, .int (nI d)), (2, .int (nI e)), (3, .int u), (4, .int w)] := hl
  refine lv_aload_n hx hb dX6_valueIn_0 rfl (lv_at hl 0 rfl) ?_
  refine lv_iload_n hx hb dX6_valueIn_1 rfl (lv_at hl 1 rfl) ?_
  refine lv_iload_n hx hb dX6_valueIn_2 rfl (lv_at hl 2 rfl) ?_
  refine x_doneA X h (x_runS X h (m_X6_knownEntry I b hL hG (by omega) n mcs hB d e (by omega) (by omega) hk _) F_X6_knownEntry q426 q427 rfl (by decide) (by decide) ⟨by decide, by decide⟩ hl.1 (Nat.le_of_ble_eq_true rfl) dX6_valueIn_3 rfl) (fun H locs h => ?_)
  refine lv_astore (lv' := [(5, .ref (ad (4, b, e, 0))), (0, .ref (ad (1, b, 0, 0))), (1, .int (nI d)), (2, .int (nI e)), (3, .int u), (4, .int w)]) hx hb dX6_valueIn_6 hl (by decide) rfl (fun ls hl => ?_)
  refine lv_iload_n hx hb dX6_valueIn_8 rfl (lv_at hl 4 rfl) ?_
  refine x_xdone X h (x_xrunS X h (x_X6_requireField I hst u h0 _) F_X6_requireField q434 q435 rfl (by decide) (by decide) ⟨by decide, by decide⟩ hl.1 (Nat.le_of_ble_eq_true rfl) dX6_valueIn_9 rfl) (fun ce q9 H locs h hce hcv hcl => ?_)
  exact x_xout X h htab hce hcv hcl (by decide) (by decide)

set_option maxHeartbeats 4000000 in
set_option maxRecDepth 100000 in
theorem x_X6_valueIn_c {l : Launch} {D : va_G} {tc : TC} {dz : Nat} {ad : KN → Nat} {Ks : List KN} {gm : GM} (I : Mem) (hst : l.stackTraces = false) (b : Nat) (hL : LV gm Ks) (hG : GMok gm) (hb2 : b < 2) (n : Nat) (mcs : Nat → Nat) (hB : BK gm I b n mcs) (d e f : Nat) (hd : d < 6) (he : e < n) (hf : f < 4) (hk : nz (I (9, b, e, d) 0) = true) (w : Int32) (h0 : w < 0 ∨ nI (cvF (I (10, b, e, d)) f) ≤ w) : MX l yX6_valueIn cX6_valueIn 7 (Option.some ClassFile.FieldType.int) 8 D tc dz ad Ks (lay tc ad gm dz I) [.ref (ad (1, b, 0, 0)), .int (nI d), .int (nI e), .int (nI f), .int w] exI := by
  intro sz
  obtain ⟨hn, hn10, hmk⟩ := id hB
  refine x_ofX (by decide +kernel) (Nat.le_of_ble_eq_true rfl) (fun pp ee s mm bel meth cd ls X htab hz h hl => ?_)
  subst hz
  obtain ⟨hx, hb, hmaxL, hown, hts⟩ := id X.1
  have hl : lv_has ls 7 [(0, .ref (ad (1, b, 0, 0))), (1, .int (nI d)), (2, .int (nI e)), (3, .int (nI f)), (4, .int w)] := hl
  refine lv_aload_n hx hb dX6_valueIn_0 rfl (lv_at hl 0 rfl) ?_
  refine lv_iload_n hx hb dX6_valueIn_1 rfl (lv_at hl 1 rfl) ?_
  refine lv_iload_n hx hb dX6_valueIn_2 rfl (lv_at hl 2 rfl) ?_
  refine x_doneA X h (x_runS X h (m_X6_knownEntry I b hL hG (by omega) n mcs hB d e (by omega) (by omega) hk _) F_X6_knownEntry q426 q427 rfl (by decide) (by decide) ⟨by decide, by decide⟩ hl.1 (Nat.le_of_ble_eq_true rfl) dX6_valueIn_3 rfl) (fun H locs h => ?_)
  refine lv_astore (lv' := [(5, .ref (ad (4, b, e, 0))), (0, .ref (ad (1, b, 0, 0))), (1, .int (nI d)), (2, .int (nI e)), (3, .int (nI f)), (4, .int w)]) hx hb dX6_valueIn_6 hl (by decide) rfl (fun ls hl => ?_)
  refine lv_iload_n hx hb dX6_valueIn_8 rfl (lv_at hl 4 rfl) ?_
  refine x_doneV X h (x_runS X h (m_X6_requireField I f (by omega) _) F_X6_requireField q434 q435 rfl (by decide) (by decide) ⟨by decide, by decide⟩ hl.1 (Nat.le_of_ble_eq_true rfl) dX6_valueIn_9 rfl) (fun H locs h => ?_)
  refine lv_aload hx hb dX6_valueIn_12 (lv_at hl 0 rfl) ?_
  refine gf_Entry_copies X h (hL (4, b, e, 0) ⟨by omega, by omega, rfl⟩) q135 dX6_valueIn_14 ?_
  refine lv_iload_n hx hb dX6_valueIn_17 rfl (lv_at hl 2 rfl) ?_
  refine ra_copies X h (hL (6, b, e, 0) ⟨by omega, by omega, rfl⟩) (j := d) (by omega) dX6_valueIn_18 ?_
  refine lv_astore (lv' := [(6, .ref (ad (9, b, e, d))), (5, .ref (ad (4, b, e, 0))), (0, .ref (ad (1, b, 0, 0))), (1, .int (nI d)), (2, .int (nI e)), (3, .int (nI f)), (4, .int w)]) hx hb dX6_valueIn_19 hl (by decide) rfl (fun ls hl => ?_)
  refine lv_iload hx hb dX6_valueIn_21 (lv_at hl 6 rfl) ?_
  refine lv_if_lt (tgt := 37) hx hb dX6_valueIn_23 (by decide) (fun c_23 => ?_) (fun c_23 => ?_)
  · skip
    exact x_throw X h hst EX_I t683 hl.1 htab dX6_valueIn_37 dX6_valueIn_40 dX6_valueIn_41 dX6_valueIn_43 dX6_valueIn_46 (by decide) (by decide) (by decide) (by decide) (by decide) (by decide)
  · skip
    refine lv_iload hx hb dX6_valueIn_26 (lv_at hl 6 rfl) ?_
    refine lv_aload hx hb dX6_valueIn_28 (lv_at hl 0 rfl) ?_
    refine lv_iload_n hx hb dX6_valueIn_30 rfl (lv_at hl 5 rfl) ?_
    refine x_doneI X h (x_runV X h (k := (9, b, e, d)) (m_X1_countValues I b e d hL (by omega) (by omega) (by omega) f (by omega) _) F_X1_countValues q682 q324 q325 (hL (9, b, e, d) ⟨by omega, by omega, by omega⟩) rfl rfl rfl (by decide) (by decide) ⟨by decide, by decide⟩ hl.1 (Nat.le_of_ble_eq_true rfl) dX6_valueIn_31 rfl) (fun H locs h => ?_)
    refine lv_icmp_lt (tgt := 47) hx hb dX6_valueIn_34 (by decide) (fun c_34 => ?_) (fun c_34 => ?_)
    · skip
      exact absurd h0 (fun q => q.elim c_23 (fun q => absurd c_34 (Int32.not_lt.mpr q)))
    · skip
      exact x_throw X h hst EX_I t683 hl.1 htab dX6_valueIn_37 dX6_valueIn_40 dX6_valueIn_41 dX6_valueIn_43 dX6_valueIn_46 (by decide) (by decide) (by decide) (by decide) (by decide) (by decide)

/-- the place of a value exists -/
def cix (I : Mem) (b : Nat) (x y u w : Int32) : Bool := !decide (w < 0) && decide (w < nI (cvF (I (10, b, y.toNatClampNeg, x.toNatClampNeg)) u.toNatClampNeg))
theorem cix_nI {I : Mem} {b d e f : Nat} {w : Int32} (hd : d < 6) (he : e < 10) (hf : f < 4) : cix I b (nI d) (nI e) (nI f) w = (!decide (w < 0) && decide (w < nI (cvF (I (10, b, e, d)) f))) := by
  unfold cix
  rw [nI_clamp (by omega), nI_clamp (by omega), nI_clamp (by omega)]
theorem x_X6_valueIn {l : Launch} {D : va_G} {tc : TC} {dz : Nat} {ad : KN → Nat} {Ks : List KN} {gm : GM} (I : Mem) (hst : l.stackTraces = false) (b : Nat) (hL : LV gm Ks) (hG : GMok gm) (hb2 : b < 2) (n : Nat) (mcs : Nat → Nat) (hB : BK gm I b n mcs) (x y u w : Int32) (h0 : (ckn I b n x y && (isFld u && cix I b x y u w)) = false) : MX l yX6_valueIn cX6_valueIn 7 (Option.some ClassFile.FieldType.int) 8 D tc dz ad Ks (lay tc ad gm dz I) [.ref (ad (1, b, 0, 0)), .int x, .int y, .int u, .int w] exI := by
  cases hc : ckn I b n x y with
  | false => exact x_X6_valueIn_a I hst b hL hG hb2 n mcs hB x y u w hc
  | true =>
    have hxy : isDev x = true ∧ isEnt n y = true := by
      unfold ckn at hc
      rw [Bool.and_eq_true, Bool.and_eq_true] at hc
      exact ⟨hc.1, hc.2.1⟩
    obtain ⟨d, hd, rfl⟩ := isDev_of hxy.1
    obtain ⟨e, he, rfl⟩ := isEnt_of hB.2.1 hxy.2
    have hk : nz (I (9, b, e, d) 0) = true := by rw [← hc, ckn_nI hB.2.1 hd he]
    cases hu : isFld u with
    | false => exact x_X6_valueIn_b I hst b hL hG hb2 n mcs hB d e hd he hk u w hu
    | true =>
      obtain ⟨f, hf, rfl⟩ := isFld_of hu
      refine x_X6_valueIn_c I hst b hL hG hb2 n mcs hB d e f hd he hf hk w ?_
      rw [hc, hu, Bool.true_and, Bool.true_and, cix_nI hd (by have := hB.2.1; omega) hf] at h0
      by_cases h1 : w < 0
      · exact Or.inl h1
      · rw [decide_eq_false h1, Bool.not_false, Bool.true_and] at h0
        exact Or.inr (Int32.not_lt.mp (of_decide_eq_false h0))
