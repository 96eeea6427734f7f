set_option maxHeartbeats 4000000 in
set_option maxRecDepth 100000 in
theorem m_Jx4a65c_size_8abf5 {l : Launch} {D : va_G} {tc : TC} {dz : Nat} {ad : KN → Nat} {Ks : List KN} {gm : GM} (I : Mem) (b e : Nat) (hL : LV gm Ks) (hG : GMok gm) (hb2 : b < 2) (he : e < 10) : MI l yJx4a65c_size_8abf5 cJx4a65c_size_8abf5 1 (Option.some ClassFile.FieldType.int) 0 D tc dz ad Ks (lay tc ad gm dz I) [.ref (ad (7, b, e, 0))] (nI (gm b e).1) (lay tc ad gm dz I) := by
  intro sz
  refine x_ofW (by decide +kernel) (Nat.le_of_ble_eq_true rfl) (fun pp ee s mm bel meth cd ls X hr hin hz h hl => ?_)
  subst hz
  obtain ⟨hx, hb, hmaxL, hown, hts⟩ := id X.1
  have hl : lv_has ls 1 [(0, .ref (ad (7, b, e, 0)))] := hl
  refine lv_aload_n hx hb dJx4a65c_size_8abf5_0 rfl (lv_at hl 0 rfl) ?_
  refine gf_List_size X h (hL (7, b, e, 0) ⟨by omega, by omega, rfl⟩) q67 dJx4a65c_size_8abf5_1 ?_
  exact x_iret X h hr rfl rfl (fun _ _ => rfl) dJx4a65c_size_8abf5_4

set_option maxHeartbeats 4000000 in
set_option maxRecDepth 100000 in
theorem m_J3_checkIndex_8e157 {l : Launch} {D : va_G} {tc : TC} {dz : Nat} {ad : KN → Nat} {Ks : List KN} {gm : GM} (I : Mem) (i n : Nat) (hi : i < n) (hn : n < 2 ^ 31) : MI l yJ3_checkIndex_8e157 cJ3_checkIndex_8e157 3 (Option.some ClassFile.FieldType.int) 0 D tc dz ad Ks (lay tc ad gm dz I) [.int (nI i), .int (nI n), .null] (nI i) (lay tc ad gm dz I) := by
  intro sz
  refine x_ofW (by decide +kernel) (Nat.le_of_ble_eq_true rfl) (fun pp ee s mm bel meth cd ls X hr hin hz h hl => ?_)
  subst hz
  obtain ⟨hx, hb, hmaxL, hown, hts⟩ := id X.1
  have hl : lv_has ls 3 [(0, .int (nI i)), (1, .int (nI n)), (2, .null)] := hl
  refine lv_iload_n hx hb dJ3_checkIndex_8e157_0 rfl (lv_at hl 0 rfl) ?_
  refine lv_if_lt (tgt := 9) hx hb dJ3_checkIndex_8e157_1 (by decide) (fun c_1 => ?_) (fun c_1 => ?_)
  · skip
    exact absurd c_1 (nI_pos (by omega))
  · skip
    refine lv_iload_n hx hb dJ3_checkIndex_8e157_4 rfl (lv_at hl 0 rfl) ?_
    refine lv_iload_n hx hb dJ3_checkIndex_8e157_5 rfl (lv_at hl 1 rfl) ?_
    refine n_icmp_lt (tgt := 16) hx hb (by omega) (by omega) dJ3_checkIndex_8e157_6 (by decide) (fun c_6 => ?_) (fun c_6 => ?_)
    · skip
      refine lv_iload_n hx hb dJ3_checkIndex_8e157_16 rfl (lv_at hl 0 rfl) ?_
      exact x_iret X h hr rfl rfl (fun _ _ => rfl) dJ3_checkIndex_8e157_17
    · skip
      exact absurd c_6 (by omega)

set_option maxHeartbeats 4000000 in
set_option maxRecDepth 100000 in
theorem m_J15_checkIndex_7cf53 {l : Launch} {D : va_G} {tc : TC} {dz : Nat} {ad : KN → Nat} {Ks : List KN} {gm : GM} (I : Mem) (i n : Nat) (hi : i < n) (hn : n < 2 ^ 31) : MI l yJ15_checkIndex_7cf53 cJ15_checkIndex_7cf53 2 (Option.some ClassFile.FieldType.int) 1 D tc dz ad Ks (lay tc ad gm dz I) [.int (nI i), .int (nI n)] (nI i) (lay tc ad gm dz I) := by
  intro sz
  refine x_ofW (by decide +kernel) (Nat.le_of_ble_eq_true rfl) (fun pp ee s mm bel meth cd ls X hr hin hz h hl => ?_)
  subst hz
  obtain ⟨hx, hb, hmaxL, hown, hts⟩ := id X.1
  have hl : lv_has ls 2 [(0, .int (nI i)), (1, .int (nI n))] := hl
  refine lv_iload_n hx hb dJ15_checkIndex_7cf53_0 rfl (lv_at hl 0 rfl) ?_
  refine lv_iload_n hx hb dJ15_checkIndex_7cf53_1 rfl (lv_at hl 1 rfl) ?_
  refine lv_null hx hb dJ15_checkIndex_7cf53_2 ?_
  refine x_doneI X h (x_runS X h (m_J3_checkIndex_8e157 I i n (by omega) (by omega) _) F_J3_checkIndex_8e157 q299 q300 rfl (by decide) (by decide) ⟨Nat.le_refl _, Nat.le_refl _⟩ hl.1 (Nat.le_of_ble_eq_true rfl) dJ15_checkIndex_7cf53_3 rfl) (fun H locs h => ?_)
  exact x_iret X h hr rfl rfl (fun _ _ => rfl) dJ15_checkIndex_7cf53_6

set_option maxHeartbeats 4000000 in
set_option maxRecDepth 100000 in
theorem m_Jx4a65c_elementData_915e3 {l : Launch} {D : va_G} {tc : TC} {dz : Nat} {ad : KN → Nat} {Ks : List KN} {gm : GM} (I : Mem) (b e : Nat) (hL : LV gm Ks) (hG : GMok gm) (hb2 : b < 2) (he : e < 10) (i : Nat) (hi : i < (gm b e).1) : MR l yJx4a65c_elementData_915e3 cJx4a65c_elementData_915e3 2 (Option.some (ClassFile.FieldType.object "java/lang/Object")) 0 D tc dz ad Ks (lay tc ad gm dz I) [.ref (ad (7, b, e, 0)), .int (nI i)] (some (ad (16, b, e, i))) (lay tc ad gm dz I) := by
  intro sz
  have hg := hG b e
  refine x_ofW (by decide +kernel) (Nat.le_of_ble_eq_true rfl) (fun pp ee s mm bel meth cd ls X hr hin hz h hl => ?_)
  subst hz
  obtain ⟨hx, hb, hmaxL, hown, hts⟩ := id X.1
  have hl : lv_has ls 2 [(0, .ref (ad (7, b, e, 0))), (1, .int (nI i))] := hl
  refine lv_aload_n hx hb dJx4a65c_elementData_915e3_0 rfl (lv_at hl 0 rfl) ?_
  refine gf_List_elem X h (hL (7, b, e, 0) ⟨by omega, by omega, rfl⟩) (by omega) q66 dJx4a65c_elementData_915e3_1 ?_
  refine lv_iload_n hx hb dJx4a65c_elementData_915e3_4 rfl (lv_at hl 1 rfl) ?_
  refine ra_marks X h (hL (8, b, e, 0) ⟨by omega, by omega, rfl, by omega⟩) (j := i) (by omega) (by omega) (by omega) dJx4a65c_elementData_915e3_5 ?_
  exact x_aret X h hr (Or.inl ⟨_, rfl⟩) rfl (fun _ _ => rfl) dJx4a65c_elementData_915e3_6

set_option maxHeartbeats 4000000 in
set_option maxRecDepth 100000 in
theorem m_Jx4a65c_get_915e3 {l : Launch} {D : va_G} {tc : TC} {dz : Nat} {ad : KN → Nat} {Ks : List KN} {gm : GM} (I : Mem) (b e : Nat) (hL : LV gm Ks) (hG : GMok gm) (hb2 : b < 2) (he : e < 10) (i : Nat) (hi : i < (gm b e).1) : MR l yJx4a65c_get_915e3 cJx4a65c_get_915e3 2 (Option.some (ClassFile.FieldType.object "java/lang/Object")) 2 D tc dz ad Ks (lay tc ad gm dz I) [.ref (ad (7, b, e, 0)), .int (nI i)] (some (ad (16, b, e, i))) (lay tc ad gm dz I) := by
  intro sz
  have hg := hG b e
  refine x_ofW (by decide +kernel) (Nat.le_of_ble_eq_true rfl) (fun pp ee s mm bel meth cd ls X hr hin hz h hl => ?_)
  subst hz
  obtain ⟨hx, hb, hmaxL, hown, hts⟩ := id X.1
  have hl : lv_has ls 2 [(0, .ref (ad (7, b, e, 0))), (1, .int (nI i))] := hl
  refine lv_iload_n hx hb dJx4a65c_get_915e3_0 rfl (lv_at hl 1 rfl) ?_
  refine lv_aload_n hx hb dJx4a65c_get_915e3_1 rfl (lv_at hl 0 rfl) ?_
  refine gf_List_size X h (hL (7, b, e, 0) ⟨by omega, by omega, rfl⟩) q67 dJx4a65c_get_915e3_2 ?_
  refine x_doneI X h (x_runS X h (m_J15_checkIndex_7cf53 I i ((gm b e).1) (by omega) (by omega) _) F_J15_checkIndex_7cf53 q296 q297 rfl (by decide) (by decide) ⟨Nat.le_refl _, Nat.le_refl _⟩ hl.1 (Nat.le_of_ble_eq_true rfl) dJx4a65c_get_915e3_5 rfl) (fun H locs h => ?_)
  refine lv_pop hx hb dJx4a65c_get_915e3_8 rfl ?_
  refine lv_aload_n hx hb dJx4a65c_get_915e3_9 rfl (lv_at hl 0 rfl) ?_
  refine lv_iload_n hx hb dJx4a65c_get_915e3_10 rfl (lv_at hl 1 rfl) ?_
  refine x_doneA X h (x_runV X h (k := (7, b, e, 0)) (m_Jx4a65c_elementData_915e3 I b e hL hG (by omega) (by omega) i (by omega) _) F_Jx4a65c_elementData_915e3 q302 q303 q304 (hL (7, b, e, 0) ⟨by omega, by omega, rfl⟩) rfl rfl rfl (by decide) (by decide) ⟨Nat.le_refl _, Nat.le_refl _⟩ hl.1 (Nat.le_of_ble_eq_true rfl) dJx4a65c_get_915e3_11 rfl) (fun H locs h => ?_)
  exact x_aret X h hr (Or.inl ⟨_, rfl⟩) rfl (fun _ _ => rfl) dJx4a65c_get_915e3_14
