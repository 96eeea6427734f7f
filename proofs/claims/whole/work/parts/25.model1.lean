set_option maxHeartbeats 4000000 in
set_option maxRecDepth 100000 in
theorem m_X7_thrown {l : Launch} {D : va_G} {tc : TC} {dz : Nat} {ad : KN → Nat} {Ks : List KN} {gm : GM} (I : Mem) (hL : LV gm Ks) : MI l yX7_thrown cX7_thrown 1 (Option.some ClassFile.FieldType.int) 0 D tc dz ad Ks (lay tc ad gm dz I) [.ref (ad (30, 0, 0, 0))] (I (30, 0, 0, 0) 4) (lay tc ad gm dz I) := by
  intro sz
  refine x_ofW (by decide +kernel) (Nat.le_of_ble_eq_true rfl) (fun pp ee s mm bel meth cd ls X hr hin hz h hl => ?_)
  subst hz
  obtain ⟨hx, hb, hmaxL, hown, hts⟩ := id X.1
  have hl : lv_has ls 1 [(0, .ref (ad (30, 0, 0, 0)))] := hl
  refine lv_aload_n hx hb dX7_thrown_0 rfl (lv_at hl 0 rfl) ?_
  refine gf_Model_thrown X h (hL (30, 0, 0, 0) ⟨by decide, rfl, rfl, rfl⟩) q812 (v := I (30, 0, 0, 0) 4) rfl dX7_thrown_1 ?_
  exact x_iret X h hr rfl rfl (fun _ _ => rfl) dX7_thrown_4

set_option maxHeartbeats 4000000 in
set_option maxRecDepth 100000 in
theorem m_X7_fails0 {l : Launch} {D : va_G} {tc : TC} {dz : Nat} {ad : KN → Nat} {Ks : List KN} {gm : GM} (I : Mem) (hL : LV gm Ks) : MI l yX7_fails cX7_fails 2 (Option.some ClassFile.FieldType.boolean) 0 D tc dz ad Ks (lay tc ad gm dz I) [.ref (ad (30, 0, 0, 0)), .int (nI 0)] (bI false) (lay tc ad gm dz (thM I 0)) := by
  intro sz
  refine x_ofW (by decide +kernel) (Nat.le_of_ble_eq_true rfl) (fun pp ee s mm bel meth cd ls X hr hin hz h hl => ?_)
  subst hz
  obtain ⟨hx, hb, hmaxL, hown, hts⟩ := id X.1
  have hl : lv_has ls 2 [(0, .ref (ad (30, 0, 0, 0))), (1, .int (nI 0))] := hl
  refine lv_aload_n hx hb dX7_fails_0 rfl (lv_at hl 0 rfl) ?_
  refine lv_iload_n hx hb dX7_fails_1 rfl (lv_at hl 1 rfl) ?_
  refine pf_Model_thrown X h (hL (30, 0, 0, 0) ⟨by decide, rfl, rfl, rfl⟩) q812 dX7_fails_2 (fun H locs h => ?_)
  refine lv_iload_n hx hb dX7_fails_5 rfl (lv_at hl 1 rfl) ?_
  refine lv_if_le (tgt := 13) hx hb dX7_fails_6 (by decide) (fun _ => ?_) (fun c => absurd c (by decide))
  refine lv_iconst (v := nI 0) hx hb dX7_fails_13 (by decide) ?_
  exact x_iret X h hr (by decide) rfl (fun _ _ => rfl) dX7_fails_14

set_option maxHeartbeats 4000000 in
set_option maxRecDepth 100000 in
theorem m_X7_fails1 {l : Launch} {D : va_G} {tc : TC} {dz : Nat} {ad : KN → Nat} {Ks : List KN} {gm : GM} (I : Mem) (hL : LV gm Ks) : MI l yX7_fails cX7_fails 2 (Option.some ClassFile.FieldType.boolean) 0 D tc dz ad Ks (lay tc ad gm dz I) [.ref (ad (30, 0, 0, 0)), .int (nI 1)] (bI true) (lay tc ad gm dz (thM I 1)) := by
  intro sz
  refine x_ofW (by decide +kernel) (Nat.le_of_ble_eq_true rfl) (fun pp ee s mm bel meth cd ls X hr hin hz h hl => ?_)
  subst hz
  obtain ⟨hx, hb, hmaxL, hown, hts⟩ := id X.1
  have hl : lv_has ls 2 [(0, .ref (ad (30, 0, 0, 0))), (1, .int (nI 1))] := hl
  refine lv_aload_n hx hb dX7_fails_0 rfl (lv_at hl 0 rfl) ?_
  refine lv_iload_n hx hb dX7_fails_1 rfl (lv_at hl 1 rfl) ?_
  refine pf_Model_thrown X h (hL (30, 0, 0, 0) ⟨by decide, rfl, rfl, rfl⟩) q812 dX7_fails_2 (fun H locs h => ?_)
  refine lv_iload_n hx hb dX7_fails_5 rfl (lv_at hl 1 rfl) ?_
  refine lv_if_le (tgt := 13) hx hb dX7_fails_6 (by decide) (fun c => absurd c (by decide)) (fun _ => ?_)
  refine lv_iconst (v := nI 1) hx hb dX7_fails_9 (by decide) ?_
  refine lv_goto (tgt := 14) hx hb dX7_fails_10 (by decide) ?_
  exact x_iret X h hr (by decide) rfl (fun _ _ => rfl) dX7_fails_14

set_option maxHeartbeats 4000000 in
set_option maxRecDepth 100000 in
theorem m_X7_fails2 {l : Launch} {D : va_G} {tc : TC} {dz : Nat} {ad : KN → Nat} {Ks : List KN} {gm : GM} (I : Mem) (hL : LV gm Ks) : MI l yX7_fails cX7_fails 2 (Option.some ClassFile.FieldType.boolean) 0 D tc dz ad Ks (lay tc ad gm dz I) [.ref (ad (30, 0, 0, 0)), .int (nI 2)] (bI true) (lay tc ad gm dz (thM I 2)) := by
  intro sz
  refine x_ofW (by decide +kernel) (Nat.le_of_ble_eq_true rfl) (fun pp ee s mm bel meth cd ls X hr hin hz h hl => ?_)
  subst hz
  obtain ⟨hx, hb, hmaxL, hown, hts⟩ := id X.1
  have hl : lv_has ls 2 [(0, .ref (ad (30, 0, 0, 0))), (1, .int (nI 2))] := hl
  refine lv_aload_n hx hb dX7_fails_0 rfl (lv_at hl 0 rfl) ?_
  refine lv_iload_n hx hb dX7_fails_1 rfl (lv_at hl 1 rfl) ?_
  refine pf_Model_thrown X h (hL (30, 0, 0, 0) ⟨by decide, rfl, rfl, rfl⟩) q812 dX7_fails_2 (fun H locs h => ?_)
  refine lv_iload_n hx hb dX7_fails_5 rfl (lv_at hl 1 rfl) ?_
  refine lv_if_le (tgt := 13) hx hb dX7_fails_6 (by decide) (fun c => absurd c (by decide)) (fun _ => ?_)
  refine lv_iconst (v := nI 1) hx hb dX7_fails_9 (by decide) ?_
  refine lv_goto (tgt := 14) hx hb dX7_fails_10 (by decide) ?_
  exact x_iret X h hr (by decide) rfl (fun _ _ => rfl) dX7_fails_14

set_option maxHeartbeats 4000000 in
set_option maxRecDepth 100000 in
theorem m_X7_fails3 {l : Launch} {D : va_G} {tc : TC} {dz : Nat} {ad : KN → Nat} {Ks : List KN} {gm : GM} (I : Mem) (hL : LV gm Ks) : MI l yX7_fails cX7_fails 2 (Option.some ClassFile.FieldType.boolean) 0 D tc dz ad Ks (lay tc ad gm dz I) [.ref (ad (30, 0, 0, 0)), .int (nI 3)] (bI true) (lay tc ad gm dz (thM I 3)) := by
  intro sz
  refine x_ofW (by decide +kernel) (Nat.le_of_ble_eq_true rfl) (fun pp ee s mm bel meth cd ls X hr hin hz h hl => ?_)
  subst hz
  obtain ⟨hx, hb, hmaxL, hown, hts⟩ := id X.1
  have hl : lv_has ls 2 [(0, .ref (ad (30, 0, 0, 0))), (1, .int (nI 3))] := hl
  refine lv_aload_n hx hb dX7_fails_0 rfl (lv_at hl 0 rfl) ?_
  refine lv_iload_n hx hb dX7_fails_1 rfl (lv_at hl 1 rfl) ?_
  refine pf_Model_thrown X h (hL (30, 0, 0, 0) ⟨by decide, rfl, rfl, rfl⟩) q812 dX7_fails_2 (fun H locs h => ?_)
  refine lv_iload_n hx hb dX7_fails_5 rfl (lv_at hl 1 rfl) ?_
  refine lv_if_le (tgt := 13) hx hb dX7_fails_6 (by decide) (fun c => absurd c (by decide)) (fun _ => ?_)
  refine lv_iconst (v := nI 1) hx hb dX7_fails_9 (by decide) ?_
  refine lv_goto (tgt := 14) hx hb dX7_fails_10 (by decide) ?_
  exact x_iret X h hr (by decide) rfl (fun _ _ => rfl) dX7_fails_14

set_option maxHeartbeats 4000000 in
set_option maxRecDepth 100000 in
theorem m_X7_isIn {l : Launch} {D : va_G} {tc : TC} {dz : Nat} {ad : KN → Nat} {Ks : List KN} {gm : GM} (I : Mem) (x a z : Int32) : MI l yX7_isIn cX7_isIn 3 (Option.some ClassFile.FieldType.boolean) 0 D tc dz ad Ks (lay tc ad gm dz I) [.int x, .int a, .int z] (bI (inR x a z)) (lay tc ad gm dz I) := by
  intro sz
  refine x_ofW (by decide +kernel) (Nat.le_of_ble_eq_true rfl) (fun pp ee s mm bel meth cd ls X hr hin hz h hl => ?_)
  subst hz
  obtain ⟨hx, hb, hmaxL, hown, hts⟩ := id X.1
  have hl : lv_has ls 3 [(0, .int x), (1, .int a), (2, .int z)] := hl
  refine lv_iload_n hx hb dX7_isIn_0 rfl (lv_at hl 0 rfl) ?_
  refine lv_iload_n hx hb dX7_isIn_1 rfl (lv_at hl 1 rfl) ?_
  refine lv_icmp_lt (tgt := 14) hx hb dX7_isIn_2 (by decide) (fun c_2 => ?_) (fun c_2 => ?_)
  · skip
    refine lv_iconst (v := nI 0) hx hb dX7_isIn_14 (by decide) ?_
    refine x_iret X h hr (by decide) ?_ (fun _ _ => rfl) dX7_isIn_15
    · simp only [inR, ↓reduceIte, c_2]; rfl
  · skip
    refine lv_iload_n hx hb dX7_isIn_5 rfl (lv_at hl 0 rfl) ?_
    refine lv_iload_n hx hb dX7_isIn_6 rfl (lv_at hl 2 rfl) ?_
    refine lv_icmp_gt (tgt := 14) hx hb dX7_isIn_7 (by decide) (fun c_7 => ?_) (fun c_7 => ?_)
    · skip
      refine lv_iconst (v := nI 0) hx hb dX7_isIn_14 (by decide) ?_
      refine x_iret X h hr (by decide) ?_ (fun _ _ => rfl) dX7_isIn_15
      · simp only [inR, ↓reduceIte, c_2, c_7]; rfl
    · skip
      refine lv_iconst (v := nI 1) hx hb dX7_isIn_10 (by decide) ?_
      refine lv_goto (tgt := 15) hx hb dX7_isIn_11 (by decide) ?_
      refine x_iret X h hr (by decide) ?_ (fun _ _ => rfl) dX7_isIn_15
      · simp only [inR, ↓reduceIte, c_2, c_7]; rfl

set_option maxHeartbeats 4000000 in
set_option maxRecDepth 100000 in
theorem m_X7_isDevice {l : Launch} {D : va_G} {tc : TC} {dz : Nat} {ad : KN → Nat} {Ks : List KN} {gm : GM} (I : Mem) (x : Int32) : MI l yX7_isDevice cX7_isDevice 1 (Option.some ClassFile.FieldType.boolean) 1 D tc dz ad Ks (lay tc ad gm dz I) [.int x] (bI (isDev x)) (lay tc ad gm dz I) := by
  intro sz
  refine x_ofW (by decide +kernel) (Nat.le_of_ble_eq_true rfl) (fun pp ee s mm bel meth cd ls X hr hin hz h hl => ?_)
  subst hz
  obtain ⟨hx, hb, hmaxL, hown, hts⟩ := id X.1
  have hl : lv_has ls 1 [(0, .int x)] := hl
  refine lv_iload_n hx hb dX7_isDevice_0 rfl (lv_at hl 0 rfl) ?_
  refine lv_iconst (v := nI 0) hx hb dX7_isDevice_1 (by decide) ?_
  refine lv_iconst (v := nI 5) hx hb dX7_isDevice_2 (by decide) ?_
  refine x_doneI X h (x_runS X h (m_X7_isIn I x (nI 0) (nI 5) _) F_X7_isIn q860 q861 rfl (by decide) (by decide) ⟨Nat.le_refl _, Nat.le_refl _⟩ hl.1 (Nat.le_of_ble_eq_true rfl) dX7_isDevice_3 rfl) (fun H locs h => ?_)
  refine x_iret X h hr (bI_nar _) ?_ (fun _ _ => rfl) dX7_isDevice_6
  · rw [inR_dev]

theorem m_X7_isDevice_in {l : Launch} {D : va_G} {tc : TC} {dz : Nat} {ad : KN → Nat} {Ks : List KN} {gm : GM} (I : Mem) (d : Nat) (hd : d < 6) : MI l yX7_isDevice cX7_isDevice 1 (some .boolean) 1 D tc dz ad Ks (lay tc ad gm dz I) [.int (nI d)] (bI true) (lay tc ad gm dz I) := by
  have h := m_X7_isDevice (l := l) (D := D) (tc := tc) (dz := dz) (ad := ad) (Ks := Ks) (gm := gm) I (nI d)
  rw [isDev_nI hd] at h
  exact h

set_option maxHeartbeats 4000000 in
set_option maxRecDepth 100000 in
theorem m_X7_isField {l : Launch} {D : va_G} {tc : TC} {dz : Nat} {ad : KN → Nat} {Ks : List KN} {gm : GM} (I : Mem) (x : Int32) : MI l yX7_isField cX7_isField 1 (Option.some ClassFile.FieldType.boolean) 1 D tc dz ad Ks (lay tc ad gm dz I) [.int x] (bI (isFld x)) (lay tc ad gm dz I) := by
  intro sz
  refine x_ofW (by decide +kernel) (Nat.le_of_ble_eq_true rfl) (fun pp ee s mm bel meth cd ls X hr hin hz h hl => ?_)
  subst hz
  obtain ⟨hx, hb, hmaxL, hown, hts⟩ := id X.1
  have hl : lv_has ls 1 [(0, .int x)] := hl
  refine lv_iload_n hx hb dX7_isField_0 rfl (lv_at hl 0 rfl) ?_
  refine lv_iconst (v := nI 0) hx hb dX7_isField_1 (by decide) ?_
  refine lv_iconst (v := nI 3) hx hb dX7_isField_2 (by decide) ?_
  refine x_doneI X h (x_runS X h (m_X7_isIn I x (nI 0) (nI 3) _) F_X7_isIn q860 q861 rfl (by decide) (by decide) ⟨Nat.le_refl _, Nat.le_refl _⟩ hl.1 (Nat.le_of_ble_eq_true rfl) dX7_isField_3 rfl) (fun H locs h => ?_)
  refine x_iret X h hr (bI_nar _) ?_ (fun _ _ => rfl) dX7_isField_6
  · rw [inR_fld]

theorem m_X7_isField_in {l : Launch} {D : va_G} {tc : TC} {dz : Nat} {ad : KN → Nat} {Ks : List KN} {gm : GM} (I : Mem) (d : Nat) (hd : d < 4) : MI l yX7_isField cX7_isField 1 (some .boolean) 1 D tc dz ad Ks (lay tc ad gm dz I) [.int (nI d)] (bI true) (lay tc ad gm dz I) := by
  have h := m_X7_isField (l := l) (D := D) (tc := tc) (dz := dz) (ad := ad) (Ks := Ks) (gm := gm) I (nI d)
  rw [isFld_nI hd] at h
  exact h

set_option maxHeartbeats 4000000 in
set_option maxRecDepth 100000 in
theorem m_X7_isEntry {l : Launch} {D : va_G} {tc : TC} {dz : Nat} {ad : KN → Nat} {Ks : List KN} {gm : GM} (I : Mem) (hL : LV gm Ks) (n : Nat) (hn : I (30, 0, 0, 0) 1 = nI n) (hn10 : n ≤ 10) (x : Int32) : MI l yX7_isEntry cX7_isEntry 2 (Option.some ClassFile.FieldType.boolean) 1 D tc dz ad Ks (lay tc ad gm dz I) [.ref (ad (30, 0, 0, 0)), .int x] (bI (isEnt n x)) (lay tc ad gm dz I) := by
  intro sz
  refine x_ofW (by decide +kernel) (Nat.le_of_ble_eq_true rfl) (fun pp ee s mm bel meth cd ls X hr hin hz h hl => ?_)
  subst hz
  obtain ⟨hx, hb, hmaxL, hown, hts⟩ := id X.1
  have hl : lv_has ls 2 [(0, .ref (ad (30, 0, 0, 0))), (1, .int x)] := hl
  refine lv_iload_n hx hb dX7_isEntry_0 rfl (lv_at hl 1 rfl) ?_
  refine lv_iconst (v := nI 0) hx hb dX7_isEntry_1 (by decide) ?_
  refine lv_aload_n hx hb dX7_isEntry_2 rfl (lv_at hl 0 rfl) ?_
  refine gf_Model_entries X h (hL (30, 0, 0, 0) ⟨by decide, rfl, rfl, rfl⟩) q798 (v := nI n) hn dX7_isEntry_3 ?_
  refine lv_iconst (v := nI 1) hx hb dX7_isEntry_6 (by decide) ?_
  refine lv_isub hx hb dX7_isEntry_7 ?_
  refine x_doneI X h (x_runS X h (m_X7_isIn I x (nI 0) ((nI n) - (nI 1)) _) F_X7_isIn q860 q861 rfl (by decide) (by decide) ⟨Nat.le_refl _, Nat.le_refl _⟩ hl.1 (Nat.le_of_ble_eq_true rfl) dX7_isEntry_8 rfl) (fun H locs h => ?_)
  refine x_iret X h hr (bI_nar _) ?_ (fun _ _ => rfl) dX7_isEntry_11
  · rw [inR_ent hn10]

theorem m_X7_isEntry_in {l : Launch} {D : va_G} {tc : TC} {dz : Nat} {ad : KN → Nat} {Ks : List KN} {gm : GM} (I : Mem) (hL : LV gm Ks) (n : Nat) (hn : I (30, 0, 0, 0) 1 = nI n) (hn10 : n ≤ 10) (e : Nat) (hen : e < n) : MI l yX7_isEntry cX7_isEntry 2 (some .boolean) 1 D tc dz ad Ks (lay tc ad gm dz I) [.ref (ad (30, 0, 0, 0)), .int (nI e)] (bI true) (lay tc ad gm dz I) := by
  have h := m_X7_isEntry (l := l) (D := D) (tc := tc) (dz := dz) (ad := ad) (Ks := Ks) (gm := gm) I hL n hn hn10 (nI e)
  rw [isEnt_nI hn10 hen] at h
  exact h

set_option maxHeartbeats 4000000 in
set_option maxRecDepth 100000 in
theorem m_X7_pair {l : Launch} {D : va_G} {tc : TC} {dz : Nat} {ad : KN → Nat} {Ks : List KN} {gm : GM} (I : Mem) (d e : Nat) : MI l yX7_pair cX7_pair 2 (Option.some ClassFile.FieldType.int) 0 D tc dz ad Ks (lay tc ad gm dz I) [.int (nI d), .int (nI e)] (nI (10 * d + e)) (lay tc ad gm dz I) := by
  intro sz
  refine x_ofW (by decide +kernel) (Nat.le_of_ble_eq_true rfl) (fun pp ee s mm bel meth cd ls X hr hin hz h hl => ?_)
  subst hz
  obtain ⟨hx, hb, hmaxL, hown, hts⟩ := id X.1
  have hl : lv_has ls 2 [(0, .int (nI d)), (1, .int (nI e))] := hl
  refine lv_bipush (v := nI 10) hx hb dX7_pair_0 (by decide) ?_
  refine lv_iload_n hx hb dX7_pair_2 rfl (lv_at hl 0 rfl) ?_
  refine n_imul hx hb dX7_pair_3 ?_
  refine lv_iload_n hx hb dX7_pair_4 rfl (lv_at hl 1 rfl) ?_
  refine n_iadd hx hb dX7_pair_5 ?_
  exact x_iret X h hr rfl rfl (fun _ _ => rfl) dX7_pair_6

set_option maxHeartbeats 4000000 in
set_option maxRecDepth 100000 in
theorem m_X7_place {l : Launch} {D : va_G} {tc : TC} {dz : Nat} {ad : KN → Nat} {Ks : List KN} {gm : GM} (I : Mem) (d e f k : Nat) : MI l yX7_place cX7_place 4 (Option.some ClassFile.FieldType.int) 0 D tc dz ad Ks (lay tc ad gm dz I) [.int (nI d), .int (nI e), .int (nI f), .int (nI k)] (nI (24 * (10 * d + e) + 6 * f + k)) (lay tc ad gm dz I) := by
  intro sz
  refine x_ofW (by decide +kernel) (Nat.le_of_ble_eq_true rfl) (fun pp ee s mm bel meth cd ls X hr hin hz h hl => ?_)
  subst hz
  obtain ⟨hx, hb, hmaxL, hown, hts⟩ := id X.1
  have hl : lv_has ls 4 [(0, .int (nI d)), (1, .int (nI e)), (2, .int (nI f)), (3, .int (nI k))] := hl
  refine lv_bipush (v := nI 24) hx hb dX7_place_0 (by decide) ?_
  refine lv_bipush (v := nI 10) hx hb dX7_place_2 (by decide) ?_
  refine lv_iload_n hx hb dX7_place_4 rfl (lv_at hl 0 rfl) ?_
  refine n_imul hx hb dX7_place_5 ?_
  refine lv_iload_n hx hb dX7_place_6 rfl (lv_at hl 1 rfl) ?_
  refine n_iadd hx hb dX7_place_7 ?_
  refine n_imul hx hb dX7_place_8 ?_
  refine lv_bipush (v := nI 6) hx hb dX7_place_9 (by decide) ?_
  refine lv_iload_n hx hb dX7_place_11 rfl (lv_at hl 2 rfl) ?_
  refine n_imul hx hb dX7_place_12 ?_
  refine n_iadd hx hb dX7_place_13 ?_
  refine lv_iload_n hx hb dX7_place_14 rfl (lv_at hl 3 rfl) ?_
  refine n_iadd hx hb dX7_place_15 ?_
  exact x_iret X h hr rfl rfl (fun _ _ => rfl) dX7_place_16

set_option maxHeartbeats 4000000 in
set_option maxRecDepth 100000 in
theorem m_X7_isKnown_in {l : Launch} {D : va_G} {tc : TC} {dz : Nat} {ad : KN → Nat} {Ks : List KN} {gm : GM} (I : Mem) (hL : LV gm Ks) (n : Nat) (hn : I (30, 0, 0, 0) 1 = nI n) (hn10 : n ≤ 10) (d e : Nat) (hd : d < 6) (hen : e < n) : MI l yX7_isKnown cX7_isKnown 3 (Option.some ClassFile.FieldType.boolean) 2 D tc dz ad Ks (lay tc ad gm dz I) [.ref (ad (30, 0, 0, 0)), .int (nI d), .int (nI e)] (bI (nz ((I (34, 0, 0, 0)) (10 * d + e)))) (lay tc ad gm dz I) := by
  intro sz
  refine x_ofW (by decide +kernel) (Nat.le_of_ble_eq_true rfl) (fun pp ee s mm bel meth cd ls X hr hin hz h hl => ?_)
  subst hz
  obtain ⟨hx, hb, hmaxL, hown, hts⟩ := id X.1
  have hl : lv_has ls 3 [(0, .ref (ad (30, 0, 0, 0))), (1, .int (nI d)), (2, .int (nI e))] := hl
  refine lv_iload_n hx hb dX7_isKnown_0 rfl (lv_at hl 1 rfl) ?_
  refine x_doneI X h (x_runS X h (m_X7_isDevice_in I d (by omega) _) F_X7_isDevice q857 q858 rfl (by decide) (by decide) ⟨Nat.le_refl _, Nat.le_refl _⟩ hl.1 (Nat.le_of_ble_eq_true rfl) dX7_isKnown_1 rfl) (fun H locs h => ?_)
  refine b_if_eq (tgt := 32) hx hb dX7_isKnown_4 (by decide) (fun c => (Bool.noConfusion c)) (fun _ => ?_)
  refine lv_aload_n hx hb dX7_isKnown_7 rfl (lv_at hl 0 rfl) ?_
  refine lv_iload_n hx hb dX7_isKnown_8 rfl (lv_at hl 2 rfl) ?_
  refine x_doneI X h (x_runV X h (k := (30, 0, 0, 0)) (m_X7_isEntry_in I hL n hn hn10 e (by omega) _) F_X7_isEntry q878 q880 q7 (hL (30, 0, 0, 0) ⟨by decide, rfl, rfl, rfl⟩) rfl rfl rfl (by decide) (by decide) ⟨Nat.le_refl _, Nat.le_refl _⟩ hl.1 (Nat.le_of_ble_eq_true rfl) dX7_isKnown_9 rfl) (fun H locs h => ?_)
  refine b_if_eq (tgt := 32) hx hb dX7_isKnown_12 (by decide) (fun c => (Bool.noConfusion c)) (fun _ => ?_)
  refine lv_aload_n hx hb dX7_isKnown_15 rfl (lv_at hl 0 rfl) ?_
  refine gf_Model_knows X h (hL (30, 0, 0, 0) ⟨by decide, rfl, rfl, rfl⟩) q801 dX7_isKnown_16 ?_
  refine lv_iload_n hx hb dX7_isKnown_19 rfl (lv_at hl 1 rfl) ?_
  refine lv_iload_n hx hb dX7_isKnown_20 rfl (lv_at hl 2 rfl) ?_
  refine x_doneI X h (x_runS X h (m_X7_pair I d e _) F_X7_pair q867 q868 rfl (by decide) (by decide) ⟨Nat.le_refl _, Nat.le_refl _⟩ hl.1 (Nat.le_of_ble_eq_true rfl) dX7_isKnown_21 rfl) (fun H locs h => ?_)
  refine y_zald X h (fun _ => rfl) (by decide) (hL (34, 0, 0, 0) ⟨by decide, rfl, rfl, rfl⟩) (by omega) (v := I (34, 0, 0, 0) (10 * d + e)) rfl dX7_isKnown_24 ?_
  refine lv_if_eq (tgt := 32) hx hb dX7_isKnown_25 (by decide) (fun c_25 => ?_) (fun c_25 => ?_)
  · skip
    refine lv_iconst (v := nI 0) hx hb dX7_isKnown_32 (by decide) ?_
    refine x_iret X h hr (by decide) ?_ (fun _ _ => rfl) dX7_isKnown_33
    · simp only [nz, ↓reduceIte, c_25] <;> rfl
  · skip
    refine lv_iconst (v := nI 1) hx hb dX7_isKnown_28 (by decide) ?_
    refine lv_goto (tgt := 33) hx hb dX7_isKnown_29 (by decide) ?_
    refine x_iret X h hr (by decide) ?_ (fun _ _ => rfl) dX7_isKnown_33
    · simp only [nz, ↓reduceIte, c_25] <;> rfl

set_option maxHeartbeats 4000000 in
set_option maxRecDepth 100000 in
theorem m_X7_isKnown_out {l : Launch} {D : va_G} {tc : TC} {dz : Nat} {ad : KN → Nat} {Ks : List KN} {gm : GM} (I : Mem) (hL : LV gm Ks) (n : Nat) (hn : I (30, 0, 0, 0) 1 = nI n) (hn10 : n ≤ 10) (x y : Int32) (hxy : isDev x = false ∨ isEnt n y = false) : MI l yX7_isKnown cX7_isKnown 3 (Option.some ClassFile.FieldType.boolean) 2 D tc dz ad Ks (lay tc ad gm dz I) [.ref (ad (30, 0, 0, 0)), .int x, .int y] (bI false) (lay tc ad gm dz I) := by
  intro sz
  refine x_ofW (by decide +kernel) (Nat.le_of_ble_eq_true rfl) (fun pp ee s mm bel meth cd ls X hr hin hz h hl => ?_)
  subst hz
  obtain ⟨hx, hb, hmaxL, hown, hts⟩ := id X.1
  have hl : lv_has ls 3 [(0, .ref (ad (30, 0, 0, 0))), (1, .int x), (2, .int y)] := hl
  refine lv_iload_n hx hb dX7_isKnown_0 rfl (lv_at hl 1 rfl) ?_
  refine x_doneI X h (x_runS X h (m_X7_isDevice I x _) F_X7_isDevice q857 q858 rfl (by decide) (by decide) ⟨Nat.le_refl _, Nat.le_refl _⟩ hl.1 (Nat.le_of_ble_eq_true rfl) dX7_isKnown_1 rfl) (fun H locs h => ?_)
  refine b_if_eq (tgt := 32) hx hb dX7_isKnown_4 (by decide) (fun c_4 => ?_) (fun c_4 => ?_)
  · skip
    refine lv_iconst (v := nI 0) hx hb dX7_isKnown_32 (by decide) ?_
    exact x_iret X h hr (by decide) rfl (fun _ _ => rfl) dX7_isKnown_33
  · skip
    refine lv_aload_n hx hb dX7_isKnown_7 rfl (lv_at hl 0 rfl) ?_
    refine lv_iload_n hx hb dX7_isKnown_8 rfl (lv_at hl 2 rfl) ?_
    refine x_doneI X h (x_runV X h (k := (30, 0, 0, 0)) (m_X7_isEntry I hL n hn hn10 y _) F_X7_isEntry q878 q880 q7 (hL (30, 0, 0, 0) ⟨by decide, rfl, rfl, rfl⟩) rfl rfl rfl (by decide) (by decide) ⟨Nat.le_refl _, Nat.le_refl _⟩ hl.1 (Nat.le_of_ble_eq_true rfl) dX7_isKnown_9 rfl) (fun H locs h => ?_)
    refine b_if_eq (tgt := 32) hx hb dX7_isKnown_12 (by decide) (fun c_12 => ?_) (fun c_12 => ?_)
    · skip
      refine lv_iconst (v := nI 0) hx hb dX7_isKnown_32 (by decide) ?_
      exact x_iret X h hr (by decide) rfl (fun _ _ => rfl) dX7_isKnown_33
    · skip
      exact absurd hxy (by rw [c_4, c_12]; decide)

set_option maxHeartbeats 4000000 in
set_option maxRecDepth 100000 in
theorem m_X7_may {l : Launch} {D : va_G} {tc : TC} {dz : Nat} {ad : KN → Nat} {Ks : List KN} {gm : GM} (I : Mem) (hL : LV gm Ks) (d e : Nat) (hd : d < 6) (he : e < 10) (f : Nat) : MI l yX7_may cX7_may 4 (Option.some ClassFile.FieldType.boolean) 0 D tc dz ad Ks (lay tc ad gm dz I) [.ref (ad (30, 0, 0, 0)), .int (nI d), .int (nI e), .int (nI f)] (bI (mayB I d e f)) (lay tc ad gm dz I) := by
  intro sz
  refine x_ofW (by decide +kernel) (Nat.le_of_ble_eq_true rfl) (fun pp ee s mm bel meth cd ls X hr hin hz h hl => ?_)
  subst hz
  obtain ⟨hx, hb, hmaxL, hown, hts⟩ := id X.1
  have hl : lv_has ls 4 [(0, .ref (ad (30, 0, 0, 0))), (1, .int (nI d)), (2, .int (nI e)), (3, .int (nI f))] := hl
  refine lv_aload_n hx hb dX7_may_0 rfl (lv_at hl 0 rfl) ?_
  refine gf_Model_owner X h (hL (30, 0, 0, 0) ⟨by decide, rfl, rfl, rfl⟩) q799 dX7_may_1 ?_
  refine lv_iload_n hx hb dX7_may_4 rfl (lv_at hl 2 rfl) ?_
  refine y_ald X h (fun _ => rfl) (by decide) (hL (32, 0, 0, 0) ⟨by decide, rfl, rfl, rfl⟩) (by omega) (v := I (32, 0, 0, 0) e) rfl dX7_may_5 ?_
  refine lv_iload_n hx hb dX7_may_6 rfl (lv_at hl 1 rfl) ?_
  refine lv_iconst (v := nI 2) hx hb dX7_may_7 (by decide) ?_
  refine n_idiv hx hb (by omega) (by omega) (by omega) dX7_may_8 ?_
  refine lv_icmp_eq (tgt := 32) hx hb dX7_may_9 (by decide) (fun c_9 => ?_) (fun c_9 => ?_)
  · skip
    refine lv_iconst (v := nI 1) hx hb dX7_may_32 (by decide) ?_
    refine lv_goto (tgt := 37) hx hb dX7_may_33 (by decide) ?_
    refine x_iret X h hr (by decide) ?_ (fun _ _ => rfl) dX7_may_37
    · rw [mayB, if_pos c_9]; rfl
  · skip
    refine lv_aload_n hx hb dX7_may_12 rfl (lv_at hl 0 rfl) ?_
    refine gf_Model_shared X h (hL (30, 0, 0, 0) ⟨by decide, rfl, rfl, rfl⟩) q800 dX7_may_13 ?_
    refine lv_iconst (v := nI 3) hx hb dX7_may_16 (by decide) ?_
    refine lv_iload_n hx hb dX7_may_17 rfl (lv_at hl 2 rfl) ?_
    refine n_imul hx hb dX7_may_18 ?_
    refine lv_iload_n hx hb dX7_may_19 rfl (lv_at hl 1 rfl) ?_
    refine lv_iconst (v := nI 2) hx hb dX7_may_20 (by decide) ?_
    refine n_idiv hx hb (by omega) (by omega) (by omega) dX7_may_21 ?_
    refine n_iadd hx hb dX7_may_22 ?_
    refine y_ald X h (fun _ => rfl) (by decide) (hL (33, 0, 0, 0) ⟨by decide, rfl, rfl, rfl⟩) (by omega) (v := I (33, 0, 0, 0) ((3 * e) + (d / 2))) rfl dX7_may_23 ?_
    refine lv_iload_n hx hb dX7_may_24 rfl (lv_at hl 3 rfl) ?_
    refine lv_ishr hx hb dX7_may_25 ?_
    refine lv_iconst (v := nI 1) hx hb dX7_may_26 (by decide) ?_
    refine lv_iand hx hb dX7_may_27 ?_
    refine lv_iconst (v := nI 1) hx hb dX7_may_28 (by decide) ?_
    refine lv_icmp_ne (tgt := 36) hx hb dX7_may_29 (by decide) (fun c_29 => ?_) (fun c_29 => ?_)
    · skip
      refine lv_iconst (v := nI 0) hx hb dX7_may_36 (by decide) ?_
      refine x_iret X h hr (by decide) ?_ (fun _ _ => rfl) dX7_may_37
      · rw [mayB, if_neg c_9, bit_f c_29]; rfl
    · skip
      refine lv_iconst (v := nI 1) hx hb dX7_may_32 (by decide) ?_
      refine lv_goto (tgt := 37) hx hb dX7_may_33 (by decide) ?_
      refine x_iret X h hr (by decide) ?_ (fun _ _ => rfl) dX7_may_37
      · rw [mayB, if_neg c_9, bit_t c_29]; rfl

theorem gt0 {x : Int32} (h : ¬ x ≤ 0) : 0 < x := by
  rw [Int32.le_iff_toInt_le] at h
  rw [Int32.lt_iff_toInt_lt]
  omega
theorem n_le0 {a : Nat} (ha : a < 2 ^ 31) (h : nI a ≤ 0) : ¬ 0 < a := by
  rw [Int32.le_iff_toInt_le, nI_toInt ha] at h
  have : (0 : Int32).toInt = 0 := by decide
  omega
theorem n_gt0 {a : Nat} (ha : a < 2 ^ 31) (h : ¬ nI a ≤ 0) : 0 < a := by
  rw [Int32.le_iff_toInt_le, nI_toInt ha] at h
  have : (0 : Int32).toInt = 0 := by decide
  omega
theorem le0 {x : Int32} (h : x ≤ 0) : ¬ 0 < x := by
  rw [Int32.le_iff_toInt_le] at h
  rw [Int32.lt_iff_toInt_lt]
  omega

set_option maxHeartbeats 4000000 in
set_option maxRecDepth 100000 in
theorem m_X7_count {l : Launch} {D : va_G} {tc : TC} {dz : Nat} {ad : KN → Nat} {Ks : List KN} {gm : GM} (I : Mem) (hL : LV gm Ks) (d e : Nat) (hd : d < 6) (he : e < 10) (f : Nat) (hf : f < 4) : MI l yX7_count cX7_count 6 (Option.some ClassFile.FieldType.int) 1 D tc dz ad Ks (lay tc ad gm dz I) [.ref (ad (30, 0, 0, 0)), .int (nI d), .int (nI e), .int (nI f)] (nI (cnF I d e f)) (lay tc ad gm dz I) := by
  intro sz
  refine x_ofW (by decide +kernel) (Nat.le_of_ble_eq_true rfl) (fun pp ee s mm bel meth cd ls X hr hin hz h hl => ?_)
  subst hz
  obtain ⟨hx, hb, hmaxL, hown, hts⟩ := id X.1
  have hl : lv_has ls 6 [(0, .ref (ad (30, 0, 0, 0))), (1, .int (nI d)), (2, .int (nI e)), (3, .int (nI f))] := hl
  refine lv_iconst (v := nI 0) hx hb dX7_count_0 (by decide) ?_
  refine lv_istore (lv' := [(4, .int (nI 0)), (0, .ref (ad (30, 0, 0, 0))), (1, .int (nI d)), (2, .int (nI e)), (3, .int (nI f))]) hx hb dX7_count_1 hl (by decide) rfl (fun ls hl => ?_)
  refine lv_iconst (v := nI 0) hx hb dX7_count_3 (by decide) ?_
  refine lv_istore (lv' := [(5, .int (nI 0)), (4, .int (nI 0)), (0, .ref (ad (30, 0, 0, 0))), (1, .int (nI d)), (2, .int (nI e)), (3, .int (nI f))]) hx hb dX7_count_4 hl (by decide) rfl (fun ls hl => ?_)
  refine y_loop (D := D) (A := wA ad Ks s.heap.size) (ad := ad) (Ks := Ks) (nL := 6) (fun i : Nat => lay tc ad gm dz I) (fun i => [(5, .int (nI i)), (4, .int (nI (cntN (fun k => decide (0 < (I (35, 0, 0, 0)) (24 * (10 * d + e) + 6 * f + k))) i))), (3, .int (nI f)), (2, .int (nI e)), (1, .int (nI d)), (0, .ref (ad (30, 0, 0, 0)))]) (fun _ => []) (fun i : Nat => i ≤ 6) (fun i => 6 - i) (fun i hi6 ih6 H locs ls h hl => ?_) 0 (Nat.zero_le _) (h.eq (congrArg (lay tc ad gm dz) rfl)) (lv_sub hl [0, 1, 5, 4, 3, 2] rfl) rfl
  have h : Sx D (wA ad Ks s.heap.size) ad Ks (lay tc ad gm dz I) s H locs := h
  have hl : lv_has ls 6 [(5, .int (nI i)), (4, .int (nI (cntN (fun k => decide (0 < (I (35, 0, 0, 0)) (24 * (10 * d + e) + 6 * f + k))) i))), (3, .int (nI f)), (2, .int (nI e)), (1, .int (nI d)), (0, .ref (ad (30, 0, 0, 0)))] := hl
  refine lv_iload hx hb dX7_count_6 (lv_at hl 0 rfl) ?_
  refine lv_bipush (v := nI 6) hx hb dX7_count_8 (by decide) ?_
  refine n_icmp_ge (tgt := 45) hx hb (by omega) (by omega) dX7_count_10 (by decide) (fun c_10 => ?_) (fun c_10 => ?_)
  · skip
    obtain rfl : i = 6 := by omega
    refine lv_iload hx hb dX7_count_45 (lv_at hl 1 rfl) ?_
    exact x_iret X h hr rfl rfl (fun _ _ => rfl) dX7_count_47
  · skip
    refine lv_iload hx hb dX7_count_13 (lv_at hl 1 rfl) ?_
    refine lv_aload_n hx hb dX7_count_15 rfl (lv_at hl 5 rfl) ?_
    refine gf_Model_act X h (hL (30, 0, 0, 0) ⟨by decide, rfl, rfl, rfl⟩) q802 dX7_count_16 ?_
    refine lv_iload_n hx hb dX7_count_19 rfl (lv_at hl 4 rfl) ?_
    refine lv_iload_n hx hb dX7_count_20 rfl (lv_at hl 3 rfl) ?_
    refine lv_iload_n hx hb dX7_count_21 rfl (lv_at hl 2 rfl) ?_
    refine lv_iload hx hb dX7_count_22 (lv_at hl 0 rfl) ?_
    refine x_doneI X h (x_runS X h (m_X7_place I d e f i _) F_X7_place q893 q894 rfl (by decide) (by decide) ⟨Nat.le_refl _, Nat.le_refl _⟩ hl.1 (Nat.le_of_ble_eq_true rfl) dX7_count_24 rfl) (fun H locs h => ?_)
    refine y_ald X h (fun _ => rfl) (by decide) (hL (35, 0, 0, 0) ⟨by decide, rfl, rfl, rfl⟩) (by omega) (v := I (35, 0, 0, 0) (24 * (10 * d + e) + 6 * f + i)) rfl dX7_count_27 ?_
    refine lv_if_le (tgt := 35) hx hb dX7_count_28 (by decide) (fun c_28 => ?_) (fun c_28 => ?_)
    · skip
      have hcn : cntN (fun k => decide (0 < (I (35, 0, 0, 0)) (24 * (10 * d + e) + 6 * f + k))) (i + 1) = cntN (fun k => decide (0 < (I (35, 0, 0, 0)) (24 * (10 * d + e) + 6 * f + k))) i + 0 := cntN_n (p := (fun k => decide (0 < (I (35, 0, 0, 0)) (24 * (10 * d + e) + 6 * f + k)))) (decide_eq_false (le0 c_28))
      refine lv_iconst (v := nI 0) hx hb dX7_count_35 (by decide) ?_
      refine n_iadd hx hb dX7_count_36 ?_
      rw [show nI ((cntN (fun k => decide (0 < (I (35, 0, 0, 0)) (24 * (10 * d + e) + 6 * f + k))) i) + 0) = nI (cntN (fun k => decide (0 < (I (35, 0, 0, 0)) (24 * (10 * d + e) + 6 * f + k))) (i + 1)) from (by rw [hcn])]
      refine lv_istore (lv' := [(4, .int (nI (cntN (fun k => decide (0 < (I (35, 0, 0, 0)) (24 * (10 * d + e) + 6 * f + k))) (i + 1)))), (5, .int (nI i)), (3, .int (nI f)), (2, .int (nI e)), (1, .int (nI d)), (0, .ref (ad (30, 0, 0, 0)))]) hx hb dX7_count_37 hl (by decide) rfl (fun ls hl => ?_)
      refine n_iinc (j := i) (n := 1) (lv' := [(5, .int (nI (i + 1))), (4, .int (nI (cntN (fun k => decide (0 < (I (35, 0, 0, 0)) (24 * (10 * d + e) + 6 * f + k))) (i + 1)))), (3, .int (nI f)), (2, .int (nI e)), (1, .int (nI d)), (0, .ref (ad (30, 0, 0, 0)))]) hx hb dX7_count_39 hl (k := 1) rfl (by decide) (by decide) rfl (fun ls hl => ?_)
      refine lv_goto (tgt := 6) hx hb dX7_count_42 (by decide) ?_
      exact ih6 (i + 1) (by omega) (by omega) H locs ls (h.eq (congrArg (lay tc ad gm dz) rfl)) (lv_sub hl [0, 1, 2, 3, 4, 5] rfl)
    · skip
      have hcn : cntN (fun k => decide (0 < (I (35, 0, 0, 0)) (24 * (10 * d + e) + 6 * f + k))) (i + 1) = cntN (fun k => decide (0 < (I (35, 0, 0, 0)) (24 * (10 * d + e) + 6 * f + k))) i + 1 := cntN_y (p := (fun k => decide (0 < (I (35, 0, 0, 0)) (24 * (10 * d + e) + 6 * f + k)))) (decide_eq_true (gt0 c_28))
      refine lv_iconst (v := nI 1) hx hb dX7_count_31 (by decide) ?_
      refine lv_goto (tgt := 36) hx hb dX7_count_32 (by decide) ?_
      refine n_iadd hx hb dX7_count_36 ?_
      rw [show nI ((cntN (fun k => decide (0 < (I (35, 0, 0, 0)) (24 * (10 * d + e) + 6 * f + k))) i) + 1) = nI (cntN (fun k => decide (0 < (I (35, 0, 0, 0)) (24 * (10 * d + e) + 6 * f + k))) (i + 1)) from (by rw [hcn])]
      refine lv_istore (lv' := [(4, .int (nI (cntN (fun k => decide (0 < (I (35, 0, 0, 0)) (24 * (10 * d + e) + 6 * f + k))) (i + 1)))), (5, .int (nI i)), (3, .int (nI f)), (2, .int (nI e)), (1, .int (nI d)), (0, .ref (ad (30, 0, 0, 0)))]) hx hb dX7_count_37 hl (by decide) rfl (fun ls hl => ?_)
      refine n_iinc (j := i) (n := 1) (lv' := [(5, .int (nI (i + 1))), (4, .int (nI (cntN (fun k => decide (0 < (I (35, 0, 0, 0)) (24 * (10 * d + e) + 6 * f + k))) (i + 1)))), (3, .int (nI f)), (2, .int (nI e)), (1, .int (nI d)), (0, .ref (ad (30, 0, 0, 0)))]) hx hb dX7_count_39 hl (k := 1) rfl (by decide) (by decide) rfl (fun ls hl => ?_)
      refine lv_goto (tgt := 6) hx hb dX7_count_42 (by decide) ?_
      exact ih6 (i + 1) (by omega) (by omega) H locs ls (h.eq (congrArg (lay tc ad gm dz) rfl)) (lv_sub hl [0, 1, 2, 3, 4, 5] rfl)

set_option maxHeartbeats 4000000 in
set_option maxRecDepth 100000 in
theorem m_X7_all {l : Launch} {D : va_G} {tc : TC} {dz : Nat} {ad : KN → Nat} {Ks : List KN} {gm : GM} (I : Mem) (hL : LV gm Ks) (d e : Nat) (hd : d < 6) (he : e < 10) : MI l yX7_all cX7_all 5 (Option.some ClassFile.FieldType.int) 2 D tc dz ad Ks (lay tc ad gm dz I) [.ref (ad (30, 0, 0, 0)), .int (nI d), .int (nI e)] (nI (cnA I d e 4)) (lay tc ad gm dz I) := by
  intro sz
  refine x_ofW (by decide +kernel) (Nat.le_of_ble_eq_true rfl) (fun pp ee s mm bel meth cd ls X hr hin hz h hl => ?_)
  subst hz
  obtain ⟨hx, hb, hmaxL, hown, hts⟩ := id X.1
  have hl : lv_has ls 5 [(0, .ref (ad (30, 0, 0, 0))), (1, .int (nI d)), (2, .int (nI e))] := hl
  refine lv_iconst (v := nI 0) hx hb dX7_all_0 (by decide) ?_
  refine lv_istore_n (lv' := [(3, .int (nI 0)), (0, .ref (ad (30, 0, 0, 0))), (1, .int (nI d)), (2, .int (nI e))]) hx hb dX7_all_1 rfl hl (by decide) rfl (fun ls hl => ?_)
  refine lv_iconst (v := nI 0) hx hb dX7_all_2 (by decide) ?_
  refine lv_istore (lv' := [(4, .int (nI 0)), (3, .int (nI 0)), (0, .ref (ad (30, 0, 0, 0))), (1, .int (nI d)), (2, .int (nI e))]) hx hb dX7_all_3 hl (by decide) rfl (fun ls hl => ?_)
  refine y_loop (D := D) (A := wA ad Ks s.heap.size) (ad := ad) (Ks := Ks) (nL := 5) (fun i : Nat => lay tc ad gm dz I) (fun i => [(4, .int (nI i)), (3, .int (nI (cnA I d e i))), (2, .int (nI e)), (1, .int (nI d)), (0, .ref (ad (30, 0, 0, 0)))]) (fun _ => []) (fun i : Nat => i ≤ 4) (fun i => 4 - i) (fun i hi5 ih5 H locs ls h hl => ?_) 0 (Nat.zero_le _) (h.eq (congrArg (lay tc ad gm dz) rfl)) (lv_sub hl [0, 1, 4, 3, 2] rfl) rfl
  have h : Sx D (wA ad Ks s.heap.size) ad Ks (lay tc ad gm dz I) s H locs := h
  have hl : lv_has ls 5 [(4, .int (nI i)), (3, .int (nI (cnA I d e i))), (2, .int (nI e)), (1, .int (nI d)), (0, .ref (ad (30, 0, 0, 0)))] := hl
  refine lv_iload hx hb dX7_all_5 (lv_at hl 0 rfl) ?_
  refine lv_iconst (v := nI 4) hx hb dX7_all_7 (by decide) ?_
  refine n_icmp_ge (tgt := 28) hx hb (by omega) (by omega) dX7_all_8 (by decide) (fun c_8 => ?_) (fun c_8 => ?_)
  · skip
    obtain rfl : i = 4 := by omega
    refine lv_iload_n hx hb dX7_all_28 rfl (lv_at hl 1 rfl) ?_
    exact x_iret X h hr rfl rfl (fun _ _ => rfl) dX7_all_29
  · skip
    refine lv_iload_n hx hb dX7_all_11 rfl (lv_at hl 1 rfl) ?_
    refine lv_aload_n hx hb dX7_all_12 rfl (lv_at hl 4 rfl) ?_
    refine lv_iload_n hx hb dX7_all_13 rfl (lv_at hl 3 rfl) ?_
    refine lv_iload_n hx hb dX7_all_14 rfl (lv_at hl 2 rfl) ?_
    refine lv_iload hx hb dX7_all_15 (lv_at hl 0 rfl) ?_
    refine x_doneI X h (x_runV X h (k := (30, 0, 0, 0)) (m_X7_count I hL d e (by omega) (by omega) i (by omega) _) F_X7_count q889 q891 q9 (hL (30, 0, 0, 0) ⟨by decide, rfl, rfl, rfl⟩) rfl rfl rfl (by decide) (by decide) ⟨Nat.le_refl _, Nat.le_refl _⟩ hl.1 (Nat.le_of_ble_eq_true rfl) dX7_all_17 rfl) (fun H locs h => ?_)
    refine n_iadd hx hb dX7_all_20 ?_
    rw [show nI ((cnA I d e i) + (cnF I d e i)) = nI (cnA I d e (i + 1)) from rfl]
    refine lv_istore_n (lv' := [(3, .int (nI (cnA I d e (i + 1)))), (4, .int (nI i)), (2, .int (nI e)), (1, .int (nI d)), (0, .ref (ad (30, 0, 0, 0)))]) hx hb dX7_all_21 rfl hl (by decide) rfl (fun ls hl => ?_)
    refine n_iinc (j := i) (n := 1) (lv' := [(4, .int (nI (i + 1))), (3, .int (nI (cnA I d e (i + 1)))), (2, .int (nI e)), (1, .int (nI d)), (0, .ref (ad (30, 0, 0, 0)))]) hx hb dX7_all_22 hl (k := 1) rfl (by decide) (by decide) rfl (fun ls hl => ?_)
    refine lv_goto (tgt := 5) hx hb dX7_all_25 (by decide) ?_
    exact ih5 (i + 1) (by omega) (by omega) H locs ls (h.eq (congrArg (lay tc ad gm dz) rfl)) (lv_sub hl [0, 1, 2, 3, 4] rfl)

set_option maxHeartbeats 4000000 in
set_option maxRecDepth 100000 in
theorem m_X7_isKnownMark {l : Launch} {D : va_G} {tc : TC} {dz : Nat} {ad : KN → Nat} {Ks : List KN} {gm : GM} (I : Mem) (hL : LV gm Ks) (d k : Nat) (hd : d < 6) (hk : k < 1024) : MI l yX7_isKnownMark cX7_isKnownMark 3 (Option.some ClassFile.FieldType.boolean) 0 D tc dz ad Ks (lay tc ad gm dz I) [.ref (ad (30, 0, 0, 0)), .int (nI d), .int (nI k)] (bI (kmk I d k)) (lay tc ad gm dz I) := by
  intro sz
  refine x_ofW (by decide +kernel) (Nat.le_of_ble_eq_true rfl) (fun pp ee s mm bel meth cd ls X hr hin hz h hl => ?_)
  subst hz
  obtain ⟨hx, hb, hmaxL, hown, hts⟩ := id X.1
  have hl : lv_has ls 3 [(0, .ref (ad (30, 0, 0, 0))), (1, .int (nI d)), (2, .int (nI k))] := hl
  refine lv_aload_n hx hb dX7_isKnownMark_0 rfl (lv_at hl 0 rfl) ?_
  refine gf_Model_since X h (hL (30, 0, 0, 0) ⟨by decide, rfl, rfl, rfl⟩) q810 dX7_isKnownMark_1 ?_
  refine lv_bipush (v := nI 6) hx hb dX7_isKnownMark_4 (by decide) ?_
  refine lv_iload_n hx hb dX7_isKnownMark_6 rfl (lv_at hl 2 rfl) ?_
  refine n_imul hx hb dX7_isKnownMark_7 ?_
  refine lv_iload_n hx hb dX7_isKnownMark_8 rfl (lv_at hl 1 rfl) ?_
  refine n_iadd hx hb dX7_isKnownMark_9 ?_
  refine y_ald X h (fun _ => rfl) (by decide) (hL (42, 0, 0, 0) ⟨by decide, rfl, rfl, rfl⟩) (by omega) (v := I (42, 0, 0, 0) ((6 * k) + d)) rfl dX7_isKnownMark_10 ?_
  refine lv_if_le (tgt := 18) hx hb dX7_isKnownMark_11 (by decide) (fun c_11 => ?_) (fun c_11 => ?_)
  · skip
    refine lv_iconst (v := nI 0) hx hb dX7_isKnownMark_18 (by decide) ?_
    refine x_iret X h hr (by decide) ?_ (fun _ _ => rfl) dX7_isKnownMark_19
    · rw [kmk, decide_eq_false (le0 c_11)]; rfl
  · skip
    refine lv_iconst (v := nI 1) hx hb dX7_isKnownMark_14 (by decide) ?_
    refine lv_goto (tgt := 19) hx hb dX7_isKnownMark_15 (by decide) ?_
    refine x_iret X h hr (by decide) ?_ (fun _ _ => rfl) dX7_isKnownMark_19
    · rw [kmk, decide_eq_true (gt0 c_11)]; rfl

set_option maxHeartbeats 4000000 in
set_option maxRecDepth 100000 in
theorem m_X7_covers {l : Launch} {D : va_G} {tc : TC} {dz : Nat} {ad : KN → Nat} {Ks : List KN} {gm : GM} (I : Mem) (hL : LV gm Ks) (d e : Nat) (hd : d < 6) (he : e < 10) (k : Nat) (hk : k < 1024) : MI l yX7_covers cX7_covers 6 (Option.some ClassFile.FieldType.boolean) 1 D tc dz ad Ks (lay tc ad gm dz I) [.ref (ad (30, 0, 0, 0)), .int (nI k), .int (nI d), .int (nI e)] (bI (cvm I k d e)) (lay tc ad gm dz I) := by
  intro sz
  refine x_ofW (by decide +kernel) (Nat.le_of_ble_eq_true rfl) (fun pp ee s mm bel meth cd ls X hr hin hz h hl => ?_)
  subst hz
  obtain ⟨hx, hb, hmaxL, hown, hts⟩ := id X.1
  have hl : lv_has ls 6 [(0, .ref (ad (30, 0, 0, 0))), (1, .int (nI k)), (2, .int (nI d)), (3, .int (nI e))] := hl
  refine lv_iconst (v := nI 1) hx hb dX7_covers_0 (by decide) ?_
  refine lv_istore (lv' := [(4, .int (nI 1)), (0, .ref (ad (30, 0, 0, 0))), (1, .int (nI k)), (2, .int (nI d)), (3, .int (nI e))]) hx hb dX7_covers_1 hl (by decide) rfl (fun ls hl => ?_)
  refine lv_iconst (v := nI 0) hx hb dX7_covers_3 (by decide) ?_
  refine lv_istore (lv' := [(5, .int (nI 0)), (4, .int (nI 1)), (0, .ref (ad (30, 0, 0, 0))), (1, .int (nI k)), (2, .int (nI d)), (3, .int (nI e))]) hx hb dX7_covers_4 hl (by decide) rfl (fun ls hl => ?_)
  refine y_loop (D := D) (A := wA ad Ks s.heap.size) (ad := ad) (Ks := Ks) (nL := 6) (fun i : Nat => lay tc ad gm dz I) (fun i => [(5, .int (nI i)), (4, .int (bI (allB (cvP I k d e) i))), (3, .int (nI e)), (2, .int (nI d)), (1, .int (nI k)), (0, .ref (ad (30, 0, 0, 0)))]) (fun _ => []) (fun i : Nat => i ≤ 24) (fun i => 24 - i) (fun i hi6 ih6 H locs ls h hl => ?_) 0 (Nat.zero_le _) (h.eq (congrArg (lay tc ad gm dz) rfl)) (lv_sub hl [0, 1, 5, 4, 3, 2] rfl) rfl
  have h : Sx D (wA ad Ks s.heap.size) ad Ks (lay tc ad gm dz I) s H locs := h
  have hl : lv_has ls 6 [(5, .int (nI i)), (4, .int (bI (allB (cvP I k d e) i))), (3, .int (nI e)), (2, .int (nI d)), (1, .int (nI k)), (0, .ref (ad (30, 0, 0, 0)))] := hl
  refine lv_iload hx hb dX7_covers_6 (lv_at hl 0 rfl) ?_
  refine lv_bipush (v := nI 24) hx hb dX7_covers_8 (by decide) ?_
  refine n_icmp_ge (tgt := 62) hx hb (by omega) (by omega) dX7_covers_10 (by decide) (fun c_10 => ?_) (fun c_10 => ?_)
  · skip
    obtain rfl : i = 24 := by omega
    refine lv_iload hx hb dX7_covers_62 (lv_at hl 1 rfl) ?_
    exact x_iret X h hr (bI_nar _) rfl (fun _ _ => rfl) dX7_covers_64
  · skip
    refine lv_iload hx hb dX7_covers_13 (lv_at hl 1 rfl) ?_
    refine b_if_eq (tgt := 53) hx hb dX7_covers_15 (by decide) (fun c_15 => ?_) (fun c_15 => ?_)
    · skip
      refine lv_iconst (v := nI 0) hx hb dX7_covers_53 (by decide) ?_
      refine lv_istore (lv' := [(4, .int (nI 0)), (5, .int (nI i)), (3, .int (nI e)), (2, .int (nI d)), (1, .int (nI k)), (0, .ref (ad (30, 0, 0, 0)))]) hx hb dX7_covers_54 hl (by decide) rfl (fun ls hl => ?_)
      have hcn : bI (allB (cvP I k d e) (i + 1)) = nI 0 := by simp only [allB, cvP, c_10, c_15, decide_true, decide_false, Bool.not_true, Bool.not_false, Bool.and_true, Bool.and_false, Bool.true_and, Bool.false_and, Bool.or_true, Bool.or_false, Bool.true_or, Bool.false_or, Bool.and_self, Bool.or_self, ↓reduceIte, Bool.false_eq_true, not_false_eq_true, not_true_eq_false] <;> rfl
      have hl : lv_has ls 6 [(4, .int (bI (allB (cvP I k d e) (i + 1)))), (5, .int (nI i)), (3, .int (nI e)), (2, .int (nI d)), (1, .int (nI k)), (0, .ref (ad (30, 0, 0, 0)))] := by rw [hcn]; exact hl
      refine n_iinc (j := i) (n := 1) (lv' := [(5, .int (nI (i + 1))), (4, .int (bI (allB (cvP I k d e) (i + 1)))), (3, .int (nI e)), (2, .int (nI d)), (1, .int (nI k)), (0, .ref (ad (30, 0, 0, 0)))]) hx hb dX7_covers_56 hl (k := 1) rfl (by decide) (by decide) rfl (fun ls hl => ?_)
      refine lv_goto (tgt := 6) hx hb dX7_covers_59 (by decide) ?_
      exact ih6 (i + 1) (by omega) (by omega) H locs ls (h.eq (congrArg (lay tc ad gm dz) rfl)) (lv_sub hl [0, 1, 2, 3, 4, 5] rfl)
    · skip
      refine lv_aload_n hx hb dX7_covers_18 rfl (lv_at hl 5 rfl) ?_
      refine gf_Model_act X h (hL (30, 0, 0, 0) ⟨by decide, rfl, rfl, rfl⟩) q802 dX7_covers_19 ?_
      refine lv_bipush (v := nI 24) hx hb dX7_covers_22 (by decide) ?_
      refine lv_iload_n hx hb dX7_covers_24 rfl (lv_at hl 3 rfl) ?_
      refine lv_iload_n hx hb dX7_covers_25 rfl (lv_at hl 2 rfl) ?_
      refine x_doneI X h (x_runS X h (m_X7_pair I d e _) F_X7_pair q867 q868 rfl (by decide) (by decide) ⟨Nat.le_refl _, Nat.le_refl _⟩ hl.1 (Nat.le_of_ble_eq_true rfl) dX7_covers_26 rfl) (fun H locs h => ?_)
      refine n_imul hx hb dX7_covers_29 ?_
      refine lv_iload hx hb dX7_covers_30 (lv_at hl 0 rfl) ?_
      refine n_iadd hx hb dX7_covers_32 ?_
      refine y_ald X h (fun _ => rfl) (by decide) (hL (35, 0, 0, 0) ⟨by decide, rfl, rfl, rfl⟩) (by omega) (v := I (35, 0, 0, 0) ((24 * (10 * d + e)) + i)) rfl dX7_covers_33 ?_
      refine lv_aload_n hx hb dX7_covers_34 rfl (lv_at hl 5 rfl) ?_
      refine gf_Model_copy X h (hL (30, 0, 0, 0) ⟨by decide, rfl, rfl, rfl⟩) q809 dX7_covers_35 ?_
      refine lv_bipush (v := nI 24) hx hb dX7_covers_38 (by decide) ?_
      refine lv_iload_n hx hb dX7_covers_40 rfl (lv_at hl 4 rfl) ?_
      refine n_imul hx hb dX7_covers_41 ?_
      refine lv_iload hx hb dX7_covers_42 (lv_at hl 0 rfl) ?_
      refine n_iadd hx hb dX7_covers_44 ?_
      refine y_ald X h (fun _ => rfl) (by decide) (hL (41, 0, 0, 0) ⟨by decide, rfl, rfl, rfl⟩) (by omega) (v := I (41, 0, 0, 0) ((24 * k) + i)) rfl dX7_covers_45 ?_
      refine lv_icmp_gt (tgt := 53) hx hb dX7_covers_46 (by decide) (fun c_46 => ?_) (fun c_46 => ?_)
      · skip
        refine lv_iconst (v := nI 0) hx hb dX7_covers_53 (by decide) ?_
        refine lv_istore (lv' := [(4, .int (nI 0)), (5, .int (nI i)), (3, .int (nI e)), (2, .int (nI d)), (1, .int (nI k)), (0, .ref (ad (30, 0, 0, 0)))]) hx hb dX7_covers_54 hl (by decide) rfl (fun ls hl => ?_)
        have hcn : bI (allB (cvP I k d e) (i + 1)) = nI 0 := by simp only [allB, cvP, c_10, c_15, c_46, decide_true, decide_false, Bool.not_true, Bool.not_false, Bool.and_true, Bool.and_false, Bool.true_and, Bool.false_and, Bool.or_true, Bool.or_false, Bool.true_or, Bool.false_or, Bool.and_self, Bool.or_self, ↓reduceIte, Bool.false_eq_true, not_false_eq_true, not_true_eq_false] <;> rfl
        have hl : lv_has ls 6 [(4, .int (bI (allB (cvP I k d e) (i + 1)))), (5, .int (nI i)), (3, .int (nI e)), (2, .int (nI d)), (1, .int (nI k)), (0, .ref (ad (30, 0, 0, 0)))] := by rw [hcn]; exact hl
        refine n_iinc (j := i) (n := 1) (lv' := [(5, .int (nI (i + 1))), (4, .int (bI (allB (cvP I k d e) (i + 1)))), (3, .int (nI e)), (2, .int (nI d)), (1, .int (nI k)), (0, .ref (ad (30, 0, 0, 0)))]) hx hb dX7_covers_56 hl (k := 1) rfl (by decide) (by decide) rfl (fun ls hl => ?_)
        refine lv_goto (tgt := 6) hx hb dX7_covers_59 (by decide) ?_
        exact ih6 (i + 1) (by omega) (by omega) H locs ls (h.eq (congrArg (lay tc ad gm dz) rfl)) (lv_sub hl [0, 1, 2, 3, 4, 5] rfl)
      · skip
        refine lv_iconst (v := nI 1) hx hb dX7_covers_49 (by decide) ?_
        refine lv_goto (tgt := 54) hx hb dX7_covers_50 (by decide) ?_
        refine lv_istore (lv' := [(4, .int (nI 1)), (5, .int (nI i)), (3, .int (nI e)), (2, .int (nI d)), (1, .int (nI k)), (0, .ref (ad (30, 0, 0, 0)))]) hx hb dX7_covers_54 hl (by decide) rfl (fun ls hl => ?_)
        have hcn : bI (allB (cvP I k d e) (i + 1)) = nI 1 := by simp only [allB, cvP, c_10, c_15, c_46, decide_true, decide_false, Bool.not_true, Bool.not_false, Bool.and_true, Bool.and_false, Bool.true_and, Bool.false_and, Bool.or_true, Bool.or_false, Bool.true_or, Bool.false_or, Bool.and_self, Bool.or_self, ↓reduceIte, Bool.false_eq_true, not_false_eq_true, not_true_eq_false] <;> rfl
        have hl : lv_has ls 6 [(4, .int (bI (allB (cvP I k d e) (i + 1)))), (5, .int (nI i)), (3, .int (nI e)), (2, .int (nI d)), (1, .int (nI k)), (0, .ref (ad (30, 0, 0, 0)))] := by rw [hcn]; exact hl
        refine n_iinc (j := i) (n := 1) (lv' := [(5, .int (nI (i + 1))), (4, .int (bI (allB (cvP I k d e) (i + 1)))), (3, .int (nI e)), (2, .int (nI d)), (1, .int (nI k)), (0, .ref (ad (30, 0, 0, 0)))]) hx hb dX7_covers_56 hl (k := 1) rfl (by decide) (by decide) rfl (fun ls hl => ?_)
        refine lv_goto (tgt := 6) hx hb dX7_covers_59 (by decide) ?_
        exact ih6 (i + 1) (by omega) (by omega) H locs ls (h.eq (congrArg (lay tc ad gm dz) rfl)) (lv_sub hl [0, 1, 2, 3, 4, 5] rfl)

set_option maxHeartbeats 4000000 in
set_option maxRecDepth 100000 in
theorem m_X7_isCovered {l : Launch} {D : va_G} {tc : TC} {dz : Nat} {ad : KN → Nat} {Ks : List KN} {gm : GM} (I : Mem) (hL : LV gm Ks) (d e : Nat) (hd : d < 6) (he : e < 10) (m : Nat) (hm : I (30, 0, 0, 0) 2 = nI m) (hm5 : m ≤ 1000) : MI l yX7_isCovered cX7_isCovered 5 (Option.some ClassFile.FieldType.boolean) 2 D tc dz ad Ks (lay tc ad gm dz I) [.ref (ad (30, 0, 0, 0)), .int (nI d), .int (nI e)] (bI (cvt I d e m)) (lay tc ad gm dz I) := by
  intro sz
  refine x_ofW (by decide +kernel) (Nat.le_of_ble_eq_true rfl) (fun pp ee s mm bel meth cd ls X hr hin hz h hl => ?_)
  subst hz
  obtain ⟨hx, hb, hmaxL, hown, hts⟩ := id X.1
  have hl : lv_has ls 5 [(0, .ref (ad (30, 0, 0, 0))), (1, .int (nI d)), (2, .int (nI e))] := hl
  refine lv_iconst (v := nI 0) hx hb dX7_isCovered_0 (by decide) ?_
  refine lv_istore_n (lv' := [(3, .int (nI 0)), (0, .ref (ad (30, 0, 0, 0))), (1, .int (nI d)), (2, .int (nI e))]) hx hb dX7_isCovered_1 rfl hl (by decide) rfl (fun ls hl => ?_)
  refine lv_iconst (v := nI 0) hx hb dX7_isCovered_2 (by decide) ?_
  refine lv_istore (lv' := [(4, .int (nI 0)), (3, .int (nI 0)), (0, .ref (ad (30, 0, 0, 0))), (1, .int (nI d)), (2, .int (nI e))]) hx hb dX7_isCovered_3 hl (by decide) rfl (fun ls hl => ?_)
  refine y_loop (D := D) (A := wA ad Ks s.heap.size) (ad := ad) (Ks := Ks) (nL := 5) (fun i : Nat => lay tc ad gm dz I) (fun i => [(4, .int (nI i)), (3, .int (bI (anyB (cvQ I d e) i))), (2, .int (nI e)), (1, .int (nI d)), (0, .ref (ad (30, 0, 0, 0)))]) (fun _ => []) (fun i : Nat => i ≤ m) (fun i => m - i) (fun i hi5 ih5 H locs ls h hl => ?_) 0 (Nat.zero_le _) (h.eq (congrArg (lay tc ad gm dz) rfl)) (lv_sub hl [0, 1, 4, 3, 2] rfl) rfl
  have h : Sx D (wA ad Ks s.heap.size) ad Ks (lay tc ad gm dz I) s H locs := h
  have hl : lv_has ls 5 [(4, .int (nI i)), (3, .int (bI (anyB (cvQ I d e) i))), (2, .int (nI e)), (1, .int (nI d)), (0, .ref (ad (30, 0, 0, 0)))] := hl
  refine lv_iload hx hb dX7_isCovered_5 (lv_at hl 0 rfl) ?_
  refine lv_aload_n hx hb dX7_isCovered_7 rfl (lv_at hl 4 rfl) ?_
  refine gf_Model_marks X h (hL (30, 0, 0, 0) ⟨by decide, rfl, rfl, rfl⟩) q807 (v := nI m) hm dX7_isCovered_8 ?_
  refine n_icmp_ge (tgt := 62) hx hb (by omega) (by omega) dX7_isCovered_11 (by decide) (fun c_11 => ?_) (fun c_11 => ?_)
  · skip
    have him : m = i := by omega
    subst him
    refine lv_iload_n hx hb dX7_isCovered_62 rfl (lv_at hl 1 rfl) ?_
    exact x_iret X h hr (bI_nar _) rfl (fun _ _ => rfl) dX7_isCovered_63
  · skip
    refine lv_iload_n hx hb dX7_isCovered_14 rfl (lv_at hl 1 rfl) ?_
    refine b_if_ne (tgt := 50) hx hb dX7_isCovered_15 (by decide) (fun c_15 => ?_) (fun c_15 => ?_)
    · skip
      refine lv_iconst (v := nI 1) hx hb dX7_isCovered_50 (by decide) ?_
      refine lv_goto (tgt := 55) hx hb dX7_isCovered_51 (by decide) ?_
      refine lv_istore_n (lv' := [(3, .int (nI 1)), (4, .int (nI i)), (2, .int (nI e)), (1, .int (nI d)), (0, .ref (ad (30, 0, 0, 0)))]) hx hb dX7_isCovered_55 rfl hl (by decide) rfl (fun ls hl => ?_)
      have hcn : bI (anyB (cvQ I d e) (i + 1)) = nI 1 := by simp only [anyB, cvQ, mo, c_11, c_15, decide_true, decide_false, Bool.not_true, Bool.not_false, Bool.and_true, Bool.and_false, Bool.true_and, Bool.false_and, Bool.or_true, Bool.or_false, Bool.true_or, Bool.false_or, Bool.and_self, Bool.or_self, ↓reduceIte, Bool.false_eq_true, not_false_eq_true, not_true_eq_false] <;> rfl
      have hl : lv_has ls 5 [(3, .int (bI (anyB (cvQ I d e) (i + 1)))), (4, .int (nI i)), (2, .int (nI e)), (1, .int (nI d)), (0, .ref (ad (30, 0, 0, 0)))] := by rw [hcn]; exact hl
      refine n_iinc (j := i) (n := 1) (lv' := [(4, .int (nI (i + 1))), (3, .int (bI (anyB (cvQ I d e) (i + 1)))), (2, .int (nI e)), (1, .int (nI d)), (0, .ref (ad (30, 0, 0, 0)))]) hx hb dX7_isCovered_56 hl (k := 1) rfl (by decide) (by decide) rfl (fun ls hl => ?_)
      refine lv_goto (tgt := 5) hx hb dX7_isCovered_59 (by decide) ?_
      exact ih5 (i + 1) (by omega) (by omega) H locs ls (h.eq (congrArg (lay tc ad gm dz) rfl)) (lv_sub hl [0, 1, 2, 3, 4] rfl)
    · skip
      refine lv_aload_n hx hb dX7_isCovered_18 rfl (lv_at hl 4 rfl) ?_
      refine gf_Model_markOf X h (hL (30, 0, 0, 0) ⟨by decide, rfl, rfl, rfl⟩) q808 dX7_isCovered_19 ?_
      refine lv_iload hx hb dX7_isCovered_22 (lv_at hl 0 rfl) ?_
      refine y_ald X h (fun _ => rfl) (by decide) (hL (40, 0, 0, 0) ⟨by decide, rfl, rfl, rfl⟩) (by omega) (v := I (40, 0, 0, 0) i) rfl dX7_isCovered_24 ?_
      refine lv_iload_n hx hb dX7_isCovered_25 rfl (lv_at hl 2 rfl) ?_
      refine lv_icmp_ne (tgt := 54) hx hb dX7_isCovered_26 (by decide) (fun c_26 => ?_) (fun c_26 => ?_)
      · skip
        refine lv_iconst (v := nI 0) hx hb dX7_isCovered_54 (by decide) ?_
        refine lv_istore_n (lv' := [(3, .int (nI 0)), (4, .int (nI i)), (2, .int (nI e)), (1, .int (nI d)), (0, .ref (ad (30, 0, 0, 0)))]) hx hb dX7_isCovered_55 rfl hl (by decide) rfl (fun ls hl => ?_)
        have hcn : bI (anyB (cvQ I d e) (i + 1)) = nI 0 := by simp only [anyB, cvQ, mo, c_11, c_15, c_26, decide_true, decide_false, Bool.not_true, Bool.not_false, Bool.and_true, Bool.and_false, Bool.true_and, Bool.false_and, Bool.or_true, Bool.or_false, Bool.true_or, Bool.false_or, Bool.and_self, Bool.or_self, ↓reduceIte, Bool.false_eq_true, not_false_eq_true, not_true_eq_false] <;> rfl
        have hl : lv_has ls 5 [(3, .int (bI (anyB (cvQ I d e) (i + 1)))), (4, .int (nI i)), (2, .int (nI e)), (1, .int (nI d)), (0, .ref (ad (30, 0, 0, 0)))] := by rw [hcn]; exact hl
        refine n_iinc (j := i) (n := 1) (lv' := [(4, .int (nI (i + 1))), (3, .int (bI (anyB (cvQ I d e) (i + 1)))), (2, .int (nI e)), (1, .int (nI d)), (0, .ref (ad (30, 0, 0, 0)))]) hx hb dX7_isCovered_56 hl (k := 1) rfl (by decide) (by decide) rfl (fun ls hl => ?_)
        refine lv_goto (tgt := 5) hx hb dX7_isCovered_59 (by decide) ?_
        exact ih5 (i + 1) (by omega) (by omega) H locs ls (h.eq (congrArg (lay tc ad gm dz) rfl)) (lv_sub hl [0, 1, 2, 3, 4] rfl)
      · skip
        refine lv_aload_n hx hb dX7_isCovered_29 rfl (lv_at hl 4 rfl) ?_
        refine lv_iload_n hx hb dX7_isCovered_30 rfl (lv_at hl 3 rfl) ?_
        refine lv_iload hx hb dX7_isCovered_31 (lv_at hl 0 rfl) ?_
        refine x_doneI X h (x_runV X h (k := (30, 0, 0, 0)) (m_X7_isKnownMark I hL d i (by omega) (by omega) _) F_X7_isKnownMark q912 q914 q13 (hL (30, 0, 0, 0) ⟨by decide, rfl, rfl, rfl⟩) rfl rfl rfl (by decide) (by decide) ⟨Nat.le_refl _, Nat.le_refl _⟩ hl.1 (Nat.le_of_ble_eq_true rfl) dX7_isCovered_33 rfl) (fun H locs h => ?_)
        refine b_if_eq (tgt := 54) hx hb dX7_isCovered_36 (by decide) (fun c_36 => ?_) (fun c_36 => ?_)
        · skip
          refine lv_iconst (v := nI 0) hx hb dX7_isCovered_54 (by decide) ?_
          refine lv_istore_n (lv' := [(3, .int (nI 0)), (4, .int (nI i)), (2, .int (nI e)), (1, .int (nI d)), (0, .ref (ad (30, 0, 0, 0)))]) hx hb dX7_isCovered_55 rfl hl (by decide) rfl (fun ls hl => ?_)
          have hcn : bI (anyB (cvQ I d e) (i + 1)) = nI 0 := by simp only [anyB, cvQ, mo, c_11, c_15, c_26, c_36, decide_true, decide_false, Bool.not_true, Bool.not_false, Bool.and_true, Bool.and_false, Bool.true_and, Bool.false_and, Bool.or_true, Bool.or_false, Bool.true_or, Bool.false_or, Bool.and_self, Bool.or_self, ↓reduceIte, Bool.false_eq_true, not_false_eq_true, not_true_eq_false] <;> rfl
          have hl : lv_has ls 5 [(3, .int (bI (anyB (cvQ I d e) (i + 1)))), (4, .int (nI i)), (2, .int (nI e)), (1, .int (nI d)), (0, .ref (ad (30, 0, 0, 0)))] := by rw [hcn]; exact hl
          refine n_iinc (j := i) (n := 1) (lv' := [(4, .int (nI (i + 1))), (3, .int (bI (anyB (cvQ I d e) (i + 1)))), (2, .int (nI e)), (1, .int (nI d)), (0, .ref (ad (30, 0, 0, 0)))]) hx hb dX7_isCovered_56 hl (k := 1) rfl (by decide) (by decide) rfl (fun ls hl => ?_)
          refine lv_goto (tgt := 5) hx hb dX7_isCovered_59 (by decide) ?_
          exact ih5 (i + 1) (by omega) (by omega) H locs ls (h.eq (congrArg (lay tc ad gm dz) rfl)) (lv_sub hl [0, 1, 2, 3, 4] rfl)
        · skip
          refine lv_aload_n hx hb dX7_isCovered_39 rfl (lv_at hl 4 rfl) ?_
          refine lv_iload hx hb dX7_isCovered_40 (lv_at hl 0 rfl) ?_
          refine lv_iload_n hx hb dX7_isCovered_42 rfl (lv_at hl 3 rfl) ?_
          refine lv_iload_n hx hb dX7_isCovered_43 rfl (lv_at hl 2 rfl) ?_
          refine x_doneI X h (x_runV X h (k := (30, 0, 0, 0)) (m_X7_covers I hL d e (by omega) (by omega) i (by omega) _) F_X7_covers q916 q918 q14 (hL (30, 0, 0, 0) ⟨by decide, rfl, rfl, rfl⟩) rfl rfl rfl (by decide) (by decide) ⟨Nat.le_refl _, Nat.le_refl _⟩ hl.1 (Nat.le_of_ble_eq_true rfl) dX7_isCovered_44 rfl) (fun H locs h => ?_)
          refine b_if_eq (tgt := 54) hx hb dX7_isCovered_47 (by decide) (fun c_47 => ?_) (fun c_47 => ?_)
          · skip
            refine lv_iconst (v := nI 0) hx hb dX7_isCovered_54 (by decide) ?_
            refine lv_istore_n (lv' := [(3, .int (nI 0)), (4, .int (nI i)), (2, .int (nI e)), (1, .int (nI d)), (0, .ref (ad (30, 0, 0, 0)))]) hx hb dX7_isCovered_55 rfl hl (by decide) rfl (fun ls hl => ?_)
            have hcn : bI (anyB (cvQ I d e) (i + 1)) = nI 0 := by simp only [anyB, cvQ, mo, c_11, c_15, c_26, c_36, c_47, decide_true, decide_false, Bool.not_true, Bool.not_false, Bool.and_true, Bool.and_false, Bool.true_and, Bool.false_and, Bool.or_true, Bool.or_false, Bool.true_or, Bool.false_or, Bool.and_self, Bool.or_self, ↓reduceIte, Bool.false_eq_true, not_false_eq_true, not_true_eq_false] <;> rfl
            have hl : lv_has ls 5 [(3, .int (bI (anyB (cvQ I d e) (i + 1)))), (4, .int (nI i)), (2, .int (nI e)), (1, .int (nI d)), (0, .ref (ad (30, 0, 0, 0)))] := by rw [hcn]; exact hl
            refine n_iinc (j := i) (n := 1) (lv' := [(4, .int (nI (i + 1))), (3, .int (bI (anyB (cvQ I d e) (i + 1)))), (2, .int (nI e)), (1, .int (nI d)), (0, .ref (ad (30, 0, 0, 0)))]) hx hb dX7_isCovered_56 hl (k := 1) rfl (by decide) (by decide) rfl (fun ls hl => ?_)
            refine lv_goto (tgt := 5) hx hb dX7_isCovered_59 (by decide) ?_
            exact ih5 (i + 1) (by omega) (by omega) H locs ls (h.eq (congrArg (lay tc ad gm dz) rfl)) (lv_sub hl [0, 1, 2, 3, 4] rfl)
          · skip
            refine lv_iconst (v := nI 1) hx hb dX7_isCovered_50 (by decide) ?_
            refine lv_goto (tgt := 55) hx hb dX7_isCovered_51 (by decide) ?_
            refine lv_istore_n (lv' := [(3, .int (nI 1)), (4, .int (nI i)), (2, .int (nI e)), (1, .int (nI d)), (0, .ref (ad (30, 0, 0, 0)))]) hx hb dX7_isCovered_55 rfl hl (by decide) rfl (fun ls hl => ?_)
            have hcn : bI (anyB (cvQ I d e) (i + 1)) = nI 1 := by simp only [anyB, cvQ, mo, c_11, c_15, c_26, c_36, c_47, decide_true, decide_false, Bool.not_true, Bool.not_false, Bool.and_true, Bool.and_false, Bool.true_and, Bool.false_and, Bool.or_true, Bool.or_false, Bool.true_or, Bool.false_or, Bool.and_self, Bool.or_self, ↓reduceIte, Bool.false_eq_true, not_false_eq_true, not_true_eq_false] <;> rfl
            have hl : lv_has ls 5 [(3, .int (bI (anyB (cvQ I d e) (i + 1)))), (4, .int (nI i)), (2, .int (nI e)), (1, .int (nI d)), (0, .ref (ad (30, 0, 0, 0)))] := by rw [hcn]; exact hl
            refine n_iinc (j := i) (n := 1) (lv' := [(4, .int (nI (i + 1))), (3, .int (bI (anyB (cvQ I d e) (i + 1)))), (2, .int (nI e)), (1, .int (nI d)), (0, .ref (ad (30, 0, 0, 0)))]) hx hb dX7_isCovered_56 hl (k := 1) rfl (by decide) (by decide) rfl (fun ls hl => ?_)
            refine lv_goto (tgt := 5) hx hb dX7_isCovered_59 (by decide) ?_
            exact ih5 (i + 1) (by omega) (by omega) H locs ls (h.eq (congrArg (lay tc ad gm dz) rfl)) (lv_sub hl [0, 1, 2, 3, 4] rfl)

set_option maxHeartbeats 4000000 in
set_option maxRecDepth 100000 in
theorem m_X7_isThere {l : Launch} {D : va_G} {tc : TC} {dz : Nat} {ad : KN → Nat} {Ks : List KN} {gm : GM} (I : Mem) (hL : LV gm Ks) (d e : Nat) (hd : d < 6) (he : e < 10) (m : Nat) (hm : I (30, 0, 0, 0) 2 = nI m) (hm5 : m ≤ 1000) : MI l yX7_isThere cX7_isThere 3 (Option.some ClassFile.FieldType.boolean) 3 D tc dz ad Ks (lay tc ad gm dz I) [.ref (ad (30, 0, 0, 0)), .int (nI d), .int (nI e)] (bI (thr I d e m)) (lay tc ad gm dz I) := by
  intro sz
  refine x_ofW (by decide +kernel) (Nat.le_of_ble_eq_true rfl) (fun pp ee s mm bel meth cd ls X hr hin hz h hl => ?_)
  subst hz
  obtain ⟨hx, hb, hmaxL, hown, hts⟩ := id X.1
  have hl : lv_has ls 3 [(0, .ref (ad (30, 0, 0, 0))), (1, .int (nI d)), (2, .int (nI e))] := hl
  refine lv_aload_n hx hb dX7_isThere_0 rfl (lv_at hl 0 rfl) ?_
  refine gf_Model_knows X h (hL (30, 0, 0, 0) ⟨by decide, rfl, rfl, rfl⟩) q801 dX7_isThere_1 ?_
  refine lv_iload_n hx hb dX7_isThere_4 rfl (lv_at hl 1 rfl) ?_
  refine lv_iload_n hx hb dX7_isThere_5 rfl (lv_at hl 2 rfl) ?_
  refine x_doneI X h (x_runS X h (m_X7_pair I d e _) F_X7_pair q867 q868 rfl (by decide) (by decide) ⟨Nat.le_refl _, Nat.le_refl _⟩ hl.1 (Nat.le_of_ble_eq_true rfl) dX7_isThere_6 rfl) (fun H locs h => ?_)
  refine y_zald X h (fun _ => rfl) (by decide) (hL (34, 0, 0, 0) ⟨by decide, rfl, rfl, rfl⟩) (by omega) (v := I (34, 0, 0, 0) (10 * d + e)) rfl dX7_isThere_9 ?_
  refine lv_if_eq (tgt := 35) hx hb dX7_isThere_10 (by decide) (fun c_10 => ?_) (fun c_10 => ?_)
  · skip
    refine lv_iconst (v := nI 0) hx hb dX7_isThere_35 (by decide) ?_
    refine x_iret X h hr (by decide) ?_ (fun _ _ => rfl) dX7_isThere_36
    · simp only [thr, c_10, decide_true, decide_false, Bool.not_true, Bool.not_false, Bool.and_true, Bool.and_false, Bool.true_and, Bool.false_and, Bool.or_true, Bool.or_false, Bool.true_or, Bool.false_or, Bool.and_self, Bool.or_self, ↓reduceIte, Bool.false_eq_true, not_false_eq_true, not_true_eq_false] <;> rfl
  · skip
    refine lv_aload_n hx hb dX7_isThere_13 rfl (lv_at hl 0 rfl) ?_
    refine lv_iload_n hx hb dX7_isThere_14 rfl (lv_at hl 1 rfl) ?_
    refine lv_iload_n hx hb dX7_isThere_15 rfl (lv_at hl 2 rfl) ?_
    refine x_doneI X h (x_runV X h (k := (30, 0, 0, 0)) (m_X7_all I hL d e (by omega) (by omega) _) F_X7_all q904 q906 q11 (hL (30, 0, 0, 0) ⟨by decide, rfl, rfl, rfl⟩) rfl rfl rfl (by decide) (by decide) ⟨Nat.le_refl _, Nat.le_refl _⟩ hl.1 (Nat.le_of_ble_eq_true rfl) dX7_isThere_16 rfl) (fun H locs h => ?_)
    have hca := cnA_le I d e 4
    refine lv_if_le (tgt := 35) hx hb dX7_isThere_19 (by decide) (fun c_19 => ?_) (fun c_19 => ?_)
    · skip
      have c_19 := n_le0 (by omega) c_19
      refine lv_iconst (v := nI 0) hx hb dX7_isThere_35 (by decide) ?_
      refine x_iret X h hr (by decide) ?_ (fun _ _ => rfl) dX7_isThere_36
      · simp only [thr, c_10, c_19, decide_true, decide_false, Bool.not_true, Bool.not_false, Bool.and_true, Bool.and_false, Bool.true_and, Bool.false_and, Bool.or_true, Bool.or_false, Bool.true_or, Bool.false_or, Bool.and_self, Bool.or_self, ↓reduceIte, Bool.false_eq_true, not_false_eq_true, not_true_eq_false] <;> rfl
    · skip
      have c_19 := n_gt0 (by omega) c_19
      refine lv_aload_n hx hb dX7_isThere_22 rfl (lv_at hl 0 rfl) ?_
      refine lv_iload_n hx hb dX7_isThere_23 rfl (lv_at hl 1 rfl) ?_
      refine lv_iload_n hx hb dX7_isThere_24 rfl (lv_at hl 2 rfl) ?_
      refine x_doneI X h (x_runV X h (k := (30, 0, 0, 0)) (m_X7_isCovered I hL d e (by omega) (by omega) m hm hm5 _) F_X7_isCovered q908 q910 q12 (hL (30, 0, 0, 0) ⟨by decide, rfl, rfl, rfl⟩) rfl rfl rfl (by decide) (by decide) ⟨Nat.le_refl _, Nat.le_refl _⟩ hl.1 (Nat.le_of_ble_eq_true rfl) dX7_isThere_25 rfl) (fun H locs h => ?_)
      refine b_if_ne (tgt := 35) hx hb dX7_isThere_28 (by decide) (fun c_28 => ?_) (fun c_28 => ?_)
      · skip
        refine lv_iconst (v := nI 0) hx hb dX7_isThere_35 (by decide) ?_
        refine x_iret X h hr (by decide) ?_ (fun _ _ => rfl) dX7_isThere_36
        · simp only [thr, c_10, c_19, c_28, decide_true, decide_false, Bool.not_true, Bool.not_false, Bool.and_true, Bool.and_false, Bool.true_and, Bool.false_and, Bool.or_true, Bool.or_false, Bool.true_or, Bool.false_or, Bool.and_self, Bool.or_self, ↓reduceIte, Bool.false_eq_true, not_false_eq_true, not_true_eq_false] <;> rfl
      · skip
        refine lv_iconst (v := nI 1) hx hb dX7_isThere_31 (by decide) ?_
        refine lv_goto (tgt := 36) hx hb dX7_isThere_32 (by decide) ?_
        refine x_iret X h hr (by decide) ?_ (fun _ _ => rfl) dX7_isThere_36
        · simp only [thr, c_10, c_19, c_28, decide_true, decide_false, Bool.not_true, Bool.not_false, Bool.and_true, Bool.and_false, Bool.true_and, Bool.false_and, Bool.or_true, Bool.or_false, Bool.true_or, Bool.false_or, Bool.and_self, Bool.or_self, ↓reduceIte, Bool.false_eq_true, not_false_eq_true, not_true_eq_false] <;> rfl
