set_option maxHeartbeats 4000000 in
set_option maxRecDepth 100000 in
theorem m_X6_isDevice {l : Launch} {D : va_G} {tc : TC} {dz : Nat} {ad : KN → Nat} {Ks : List KN} {gm : GM} (I : Mem) (x : Int32) : MI l yX6_isDevice cX6_isDevice 1 (Option.some ClassFile.FieldType.boolean) 0 D tc dz ad Ks (lay tc ad gm dz I) [.int x] (bI (isDev x)) (lay tc ad gm dz I) := by
  intro sz
  refine x_ofW (by decide +kernel) (Nat.le_of_ble_eq_true rfl) (fun pp ee s mm bel meth cd ls X hr hin hz h hl => ?_)
  subst hz
  obtain ⟨hx, hb, hmaxL, hown, hts⟩ := id X.1
  have hl : lv_has ls 1 [(0, .int x)] := hl
  refine lv_iload_n hx hb dX6_isDevice_0 rfl (lv_at hl 0 rfl) ?_
  refine lv_if_lt (tgt := 14) hx hb dX6_isDevice_1 (by decide) (fun c_1 => ?_) (fun c_1 => ?_)
  · skip
    refine lv_iconst (v := nI 0) hx hb dX6_isDevice_14 (by decide) ?_
    refine x_iret X h hr (by decide) ?_ (fun _ _ => rfl) dX6_isDevice_15
    · simp only [isDev, ↓reduceIte, c_1]; rfl
  · skip
    refine lv_iload_n hx hb dX6_isDevice_4 rfl (lv_at hl 0 rfl) ?_
    refine lv_bipush (v := nI 6) hx hb dX6_isDevice_5 (by decide) ?_
    refine lv_icmp_ge (tgt := 14) hx hb dX6_isDevice_7 (by decide) (fun c_7 => ?_) (fun c_7 => ?_)
    · skip
      refine lv_iconst (v := nI 0) hx hb dX6_isDevice_14 (by decide) ?_
      refine x_iret X h hr (by decide) ?_ (fun _ _ => rfl) dX6_isDevice_15
      · simp only [isDev, ↓reduceIte, c_1, c_7]; rfl
    · skip
      refine lv_iconst (v := nI 1) hx hb dX6_isDevice_10 (by decide) ?_
      refine lv_goto (tgt := 15) hx hb dX6_isDevice_11 (by decide) ?_
      refine x_iret X h hr (by decide) ?_ (fun _ _ => rfl) dX6_isDevice_15
      · simp only [isDev, ↓reduceIte, c_1, c_7]; rfl

set_option maxHeartbeats 4000000 in
set_option maxRecDepth 100000 in
theorem m_X6_isPerson {l : Launch} {D : va_G} {tc : TC} {dz : Nat} {ad : KN → Nat} {Ks : List KN} {gm : GM} (I : Mem) (x : Int32) : MI l yX6_isPerson cX6_isPerson 1 (Option.some ClassFile.FieldType.boolean) 0 D tc dz ad Ks (lay tc ad gm dz I) [.int x] (bI (isPer x)) (lay tc ad gm dz I) := by
  intro sz
  refine x_ofW (by decide +kernel) (Nat.le_of_ble_eq_true rfl) (fun pp ee s mm bel meth cd ls X hr hin hz h hl => ?_)
  subst hz
  obtain ⟨hx, hb, hmaxL, hown, hts⟩ := id X.1
  have hl : lv_has ls 1 [(0, .int x)] := hl
  refine lv_iload_n hx hb dX6_isPerson_0 rfl (lv_at hl 0 rfl) ?_
  refine lv_if_lt (tgt := 13) hx hb dX6_isPerson_1 (by decide) (fun c_1 => ?_) (fun c_1 => ?_)
  · skip
    refine lv_iconst (v := nI 0) hx hb dX6_isPerson_13 (by decide) ?_
    refine x_iret X h hr (by decide) ?_ (fun _ _ => rfl) dX6_isPerson_14
    · simp only [isPer, ↓reduceIte, c_1]; rfl
  · skip
    refine lv_iload_n hx hb dX6_isPerson_4 rfl (lv_at hl 0 rfl) ?_
    refine lv_iconst (v := nI 3) hx hb dX6_isPerson_5 (by decide) ?_
    refine lv_icmp_ge (tgt := 13) hx hb dX6_isPerson_6 (by decide) (fun c_6 => ?_) (fun c_6 => ?_)
    · skip
      refine lv_iconst (v := nI 0) hx hb dX6_isPerson_13 (by decide) ?_
      refine x_iret X h hr (by decide) ?_ (fun _ _ => rfl) dX6_isPerson_14
      · simp only [isPer, ↓reduceIte, c_1, c_6]; rfl
    · skip
      refine lv_iconst (v := nI 1) hx hb dX6_isPerson_9 (by decide) ?_
      refine lv_goto (tgt := 14) hx hb dX6_isPerson_10 (by decide) ?_
      refine x_iret X h hr (by decide) ?_ (fun _ _ => rfl) dX6_isPerson_14
      · simp only [isPer, ↓reduceIte, c_1, c_6]; rfl

set_option maxHeartbeats 4000000 in
set_option maxRecDepth 100000 in
theorem m_X6_isField {l : Launch} {D : va_G} {tc : TC} {dz : Nat} {ad : KN → Nat} {Ks : List KN} {gm : GM} (I : Mem) (x : Int32) : MI l yX6_isField cX6_isField 1 (Option.some ClassFile.FieldType.boolean) 0 D tc dz ad Ks (lay tc ad gm dz I) [.int x] (bI (isFld x)) (lay tc ad gm dz I) := by
  intro sz
  refine x_ofW (by decide +kernel) (Nat.le_of_ble_eq_true rfl) (fun pp ee s mm bel meth cd ls X hr hin hz h hl => ?_)
  subst hz
  obtain ⟨hx, hb, hmaxL, hown, hts⟩ := id X.1
  have hl : lv_has ls 1 [(0, .int x)] := hl
  refine lv_iload_n hx hb dX6_isField_0 rfl (lv_at hl 0 rfl) ?_
  refine lv_if_lt (tgt := 13) hx hb dX6_isField_1 (by decide) (fun c_1 => ?_) (fun c_1 => ?_)
  · skip
    refine lv_iconst (v := nI 0) hx hb dX6_isField_13 (by decide) ?_
    refine x_iret X h hr (by decide) ?_ (fun _ _ => rfl) dX6_isField_14
    · simp only [isFld, ↓reduceIte, c_1]; rfl
  · skip
    refine lv_iload_n hx hb dX6_isField_4 rfl (lv_at hl 0 rfl) ?_
    refine lv_iconst (v := nI 4) hx hb dX6_isField_5 (by decide) ?_
    refine lv_icmp_ge (tgt := 13) hx hb dX6_isField_6 (by decide) (fun c_6 => ?_) (fun c_6 => ?_)
    · skip
      refine lv_iconst (v := nI 0) hx hb dX6_isField_13 (by decide) ?_
      refine x_iret X h hr (by decide) ?_ (fun _ _ => rfl) dX6_isField_14
      · simp only [isFld, ↓reduceIte, c_1, c_6]; rfl
    · skip
      refine lv_iconst (v := nI 1) hx hb dX6_isField_9 (by decide) ?_
      refine lv_goto (tgt := 14) hx hb dX6_isField_10 (by decide) ?_
      refine x_iret X h hr (by decide) ?_ (fun _ _ => rfl) dX6_isField_14
      · simp only [isFld, ↓reduceIte, c_1, c_6]; rfl

set_option maxHeartbeats 4000000 in
set_option maxRecDepth 100000 in
theorem m_X6_personOf {l : Launch} {D : va_G} {tc : TC} {dz : Nat} {ad : KN → Nat} {Ks : List KN} {gm : GM} (I : Mem) (d : Nat) (hd : d < 6) : MI l yX6_personOf cX6_personOf 1 (Option.some ClassFile.FieldType.int) 0 D tc dz ad Ks (lay tc ad gm dz I) [.int (nI d)] (nI (d / 2)) (lay tc ad gm dz I) := by
  intro sz
  refine x_ofW (by decide +kernel) (Nat.le_of_ble_eq_true rfl) (fun pp ee s mm bel meth cd ls X hr hin hz h hl => ?_)
  subst hz
  obtain ⟨hx, hb, hmaxL, hown, hts⟩ := id X.1
  have hl : lv_has ls 1 [(0, .int (nI d))] := hl
  refine lv_iload_n hx hb dX6_personOf_0 rfl (lv_at hl 0 rfl) ?_
  refine lv_iconst (v := nI 2) hx hb dX6_personOf_1 (by decide) ?_
  refine n_idiv hx hb (by omega) (by omega) (by omega) dX6_personOf_2 ?_
  exact x_iret X h hr rfl rfl (fun _ _ => rfl) dX6_personOf_3

set_option maxHeartbeats 4000000 in
set_option maxRecDepth 100000 in
theorem m_X6_cell {l : Launch} {D : va_G} {tc : TC} {dz : Nat} {ad : KN → Nat} {Ks : List KN} {gm : GM} (I : Mem) (f d : Nat) : MI l yX6_cell cX6_cell 2 (Option.some ClassFile.FieldType.int) 0 D tc dz ad Ks (lay tc ad gm dz I) [.int (nI f), .int (nI d)] (nI (f * 6 + d)) (lay tc ad gm dz I) := by
  intro sz
  refine x_ofW (by decide +kernel) (Nat.le_of_ble_eq_true rfl) (fun pp ee s mm bel meth cd ls X hr hin hz h hl => ?_)
  subst hz
  obtain ⟨hx, hb, hmaxL, hown, hts⟩ := id X.1
  have hl : lv_has ls 2 [(0, .int (nI f)), (1, .int (nI d))] := hl
  refine lv_iload_n hx hb dX6_cell_0 rfl (lv_at hl 0 rfl) ?_
  refine lv_bipush (v := nI 6) hx hb dX6_cell_1 (by decide) ?_
  refine n_imul hx hb dX6_cell_3 ?_
  refine lv_iload_n hx hb dX6_cell_4 rfl (lv_at hl 1 rfl) ?_
  refine n_iadd hx hb dX6_cell_5 ?_
  exact x_iret X h hr rfl rfl (fun _ _ => rfl) dX6_cell_6

set_option maxHeartbeats 4000000 in
set_option maxRecDepth 100000 in
theorem m_X6_contains {l : Launch} {D : va_G} {tc : TC} {dz : Nat} {ad : KN → Nat} {Ks : List KN} {gm : GM} (I : Mem) (x : Int32) (f : Nat) : MI l yX6_contains cX6_contains 2 (Option.some ClassFile.FieldType.boolean) 0 D tc dz ad Ks (lay tc ad gm dz I) [.int x, .int (nI f)] (bI (bit x f)) (lay tc ad gm dz I) := by
  intro sz
  refine x_ofW (by decide +kernel) (Nat.le_of_ble_eq_true rfl) (fun pp ee s mm bel meth cd ls X hr hin hz h hl => ?_)
  subst hz
  obtain ⟨hx, hb, hmaxL, hown, hts⟩ := id X.1
  have hl : lv_has ls 2 [(0, .int x), (1, .int (nI f))] := hl
  refine lv_iload_n hx hb dX6_contains_0 rfl (lv_at hl 0 rfl) ?_
  refine lv_iload_n hx hb dX6_contains_1 rfl (lv_at hl 1 rfl) ?_
  refine lv_ishr hx hb dX6_contains_2 ?_
  refine lv_iconst (v := nI 1) hx hb dX6_contains_3 (by decide) ?_
  refine lv_iand hx hb dX6_contains_4 ?_
  refine lv_if_eq (tgt := 12) hx hb dX6_contains_5 (by decide) (fun c_5 => ?_) (fun c_5 => ?_)
  · skip
    refine lv_iconst (v := nI 0) hx hb dX6_contains_12 (by decide) ?_
    refine x_iret X h hr (by decide) ?_ (fun _ _ => rfl) dX6_contains_13
    · simp only [bit, ↓reduceIte, c_5]; rfl
  · skip
    refine lv_iconst (v := nI 1) hx hb dX6_contains_8 (by decide) ?_
    refine lv_goto (tgt := 13) hx hb dX6_contains_9 (by decide) ?_
    refine x_iret X h hr (by decide) ?_ (fun _ _ => rfl) dX6_contains_13
    · simp only [bit, ↓reduceIte, c_5]; rfl

set_option maxHeartbeats 4000000 in
set_option maxRecDepth 100000 in
theorem m_X5_clear {l : Launch} {D : va_G} {tc : TC} {dz : Nat} {ad : KN → Nat} {Ks : List KN} {gm : GM} (I : Mem) (k ka : KN) (hc : ∀ f, cont tc ad gm dz k f = .inr (6, [.ref (ad ka)])) (hca : ∀ f, cont tc ad gm dz ka f = .inl (tc 0, 24, .inl f)) (hk : k ∈ Ks) (hka : ka ∈ Ks) : MV l yX5_clear cX5_clear 2 0 D tc dz ad Ks (lay tc ad gm dz I) [.ref (ad k)] (lay tc ad gm dz (sset I ka (fun _ => 0))) := by
  intro sz
  refine x_ofW (by decide +kernel) (Nat.le_of_ble_eq_true rfl) (fun pp ee s mm bel meth cd ls X hr hin hz h hl => ?_)
  subst hz
  obtain ⟨hx, hb, hmaxL, hown, hts⟩ := id X.1
  have hl : lv_has ls 2 [(0, .ref (ad k))] := hl
  refine lv_iconst (v := nI 0) hx hb dX5_clear_0 (by decide) ?_
  refine lv_istore_n (lv' := [(1, .int (nI 0)), (0, .ref (ad k))]) hx hb dX5_clear_1 rfl hl (by decide) rfl (fun ls hl => ?_)
  refine y_loop (D := D) (A := wA ad Ks s.heap.size) (ad := ad) (Ks := Ks) (nL := 2) (fun i : Nat => lay tc ad gm dz (sset I ka (pf i (fun _ => 0) (I ka)))) (fun i => [(1, .int (nI i)), (0, .ref (ad k))]) (fun _ => []) (fun i : Nat => i ≤ 24) (fun i => 24 - i) (fun i hi2 ih2 H locs ls h hl => ?_) 0 (Nat.zero_le _) (h.eq (congrArg (lay tc ad gm dz) (pf_at0 I ka _))) (lv_sub hl [0, 1] rfl) rfl
  have h : Sx D (wA ad Ks s.heap.size) ad Ks (lay tc ad gm dz (sset I ka (pf i (fun _ => 0) (I ka)))) s H locs := h
  have hl : lv_has ls 2 [(1, .int (nI i)), (0, .ref (ad k))] := hl
  refine lv_iload_n hx hb dX5_clear_2 rfl (lv_at hl 0 rfl) ?_
  refine lv_bipush (v := nI 24) hx hb dX5_clear_3 (by decide) ?_
  refine n_icmp_ge (tgt := 21) hx hb (by omega) (by omega) dX5_clear_5 (by decide) (fun c_5 => ?_) (fun c_5 => ?_)
  · skip
    obtain rfl : i = 24 := by omega
    have h := h.pfEnd hca
    exact x_vret X h hr (fun _ _ => rfl) dX5_clear_21
  · skip
    refine lv_aload_n hx hb dX5_clear_8 rfl (lv_at hl 1 rfl) ?_
    refine gf_Numbers_numbers X h hc hk q90 dX5_clear_9 ?_
    refine lv_iload_n hx hb dX5_clear_12 rfl (lv_at hl 0 rfl) ?_
    refine lv_iconst (v := nI 0) hx hb dX5_clear_13 (by decide) ?_
    refine y_ast X h hca (by decide) hka (by omega) dX5_clear_14 (fun H locs h => ?_)
    refine n_iinc (j := i) (n := 1) (lv' := [(1, .int (nI (i + 1))), (0, .ref (ad k))]) hx hb dX5_clear_15 hl (k := 0) rfl (by decide) (by decide) rfl (fun ls hl => ?_)
    refine lv_goto (tgt := 2) hx hb dX5_clear_18 (by decide) ?_
    exact ih2 (i + 1) (by omega) (by omega) H locs ls (h.eq (congrArg (lay tc ad gm dz) (pf_step I ka rfl))) (lv_sub hl [0, 1] rfl)

set_option maxHeartbeats 4000000 in
set_option maxRecDepth 100000 in
theorem m_X5_raiseTo {l : Launch} {D : va_G} {tc : TC} {dz : Nat} {ad : KN → Nat} {Ks : List KN} {gm : GM} (I : Mem) (k ka : KN) (hc : ∀ f, cont tc ad gm dz k f = .inr (6, [.ref (ad ka)])) (hca : ∀ f, cont tc ad gm dz ka f = .inl (tc 0, 24, .inl f)) (hk : k ∈ Ks) (hka : ka ∈ Ks) (k2 ka2 : KN) (hc2 : ∀ f, cont tc ad gm dz k2 f = .inr (6, [.ref (ad ka2)])) (hca2 : ∀ f, cont tc ad gm dz ka2 f = .inl (tc 0, 24, .inl f)) (hk2 : k2 ∈ Ks) (hka2 : ka2 ∈ Ks) : MV l yX5_raiseTo cX5_raiseTo 3 1 D tc dz ad Ks (lay tc ad gm dz I) [.ref (ad k), .ref (ad k2)] (lay tc ad gm dz (sset I ka (fun c => imax (I ka c) (I ka2 c)))) := by
  intro sz
  refine x_ofW (by decide +kernel) (Nat.le_of_ble_eq_true rfl) (fun pp ee s mm bel meth cd ls X hr hin hz h hl => ?_)
  subst hz
  obtain ⟨hx, hb, hmaxL, hown, hts⟩ := id X.1
  have hl : lv_has ls 3 [(0, .ref (ad k)), (1, .ref (ad k2))] := hl
  refine lv_iconst (v := nI 0) hx hb dX5_raiseTo_0 (by decide) ?_
  refine lv_istore_n (lv' := [(2, .int (nI 0)), (0, .ref (ad k)), (1, .ref (ad k2))]) hx hb dX5_raiseTo_1 rfl hl (by decide) rfl (fun ls hl => ?_)
  refine y_loop (D := D) (A := wA ad Ks s.heap.size) (ad := ad) (Ks := Ks) (nL := 3) (fun i : Nat => lay tc ad gm dz (sset I ka (pf i (fun c => imax (I ka c) (I ka2 c)) (I ka)))) (fun i => [(2, .int (nI i)), (0, .ref (ad k)), (1, .ref (ad k2))]) (fun _ => []) (fun i : Nat => i ≤ 24) (fun i => 24 - i) (fun i hi2 ih2 H locs ls h hl => ?_) 0 (Nat.zero_le _) (h.eq (congrArg (lay tc ad gm dz) (pf_at0 I ka _))) (lv_sub hl [0, 1, 2] rfl) rfl
  have h : Sx D (wA ad Ks s.heap.size) ad Ks (lay tc ad gm dz (sset I ka (pf i (fun c => imax (I ka c) (I ka2 c)) (I ka)))) s H locs := h
  have hl : lv_has ls 3 [(2, .int (nI i)), (0, .ref (ad k)), (1, .ref (ad k2))] := hl
  refine lv_iload_n hx hb dX5_raiseTo_2 rfl (lv_at hl 0 rfl) ?_
  refine lv_bipush (v := nI 24) hx hb dX5_raiseTo_3 (by decide) ?_
  refine n_icmp_ge (tgt := 35) hx hb (by omega) (by omega) dX5_raiseTo_5 (by decide) (fun c_5 => ?_) (fun c_5 => ?_)
  · skip
    obtain rfl : i = 24 := by omega
    have h := h.pfEnd hca
    exact x_vret X h hr (fun _ _ => rfl) dX5_raiseTo_35
  · skip
    refine lv_aload_n hx hb dX5_raiseTo_8 rfl (lv_at hl 1 rfl) ?_
    refine gf_Numbers_numbers X h hc hk q90 dX5_raiseTo_9 ?_
    refine lv_iload_n hx hb dX5_raiseTo_12 rfl (lv_at hl 0 rfl) ?_
    refine lv_aload_n hx hb dX5_raiseTo_13 rfl (lv_at hl 1 rfl) ?_
    refine gf_Numbers_numbers X h hc hk q90 dX5_raiseTo_14 ?_
    refine lv_iload_n hx hb dX5_raiseTo_17 rfl (lv_at hl 0 rfl) ?_
    refine y_ald X h hca (by decide) hka (by omega) (v := (I ka i)) (pf_see I ka ka _ i) dX5_raiseTo_18 ?_
    refine lv_aload_n hx hb dX5_raiseTo_19 rfl (lv_at hl 2 rfl) ?_
    refine gf_Numbers_numbers X h hc2 hk2 q90 dX5_raiseTo_20 ?_
    refine lv_iload_n hx hb dX5_raiseTo_23 rfl (lv_at hl 0 rfl) ?_
    refine y_ald X h hca2 (by decide) hka2 (by omega) (v := (I ka2 i)) (pf_see I ka ka2 _ i) dX5_raiseTo_24 ?_
    refine x_max X hl.1 q581 (by decide) (Nat.le_of_ble_eq_true rfl) (Nat.le_refl _) (Nat.le_refl _) dX5_raiseTo_25 ?_
    refine y_ast X h hca (by decide) hka (by omega) dX5_raiseTo_28 (fun H locs h => ?_)
    refine n_iinc (j := i) (n := 1) (lv' := [(2, .int (nI (i + 1))), (0, .ref (ad k)), (1, .ref (ad k2))]) hx hb dX5_raiseTo_29 hl (k := 0) rfl (by decide) (by decide) rfl (fun ls hl => ?_)
    refine lv_goto (tgt := 2) hx hb dX5_raiseTo_32 (by decide) ?_
    exact ih2 (i + 1) (by omega) (by omega) H locs ls (h.eq (congrArg (lay tc ad gm dz) (pf_step I ka rfl))) (lv_sub hl [0, 1, 2] rfl)

set_option maxHeartbeats 4000000 in
set_option maxRecDepth 100000 in
theorem m_X5_coverAll {l : Launch} {D : va_G} {tc : TC} {dz : Nat} {ad : KN → Nat} {Ks : List KN} {gm : GM} (I : Mem) (k ka : KN) (hc : ∀ f, cont tc ad gm dz k f = .inr (6, [.ref (ad ka)])) (hca : ∀ f, cont tc ad gm dz ka f = .inl (tc 0, 24, .inl f)) (hk : k ∈ Ks) (hka : ka ∈ Ks) (b e d : Nat) (hL : LV gm Ks) (hb2 : b < 2) (he : e < 10) (hd : d < 6) : MI l yX5_coverAll cX5_coverAll 3 (Option.some ClassFile.FieldType.boolean) 0 D tc dz ad Ks (lay tc ad gm dz I) [.ref (ad k), .ref (ad (9, b, e, d))] (bI (cov (I (10, b, e, d)) (I ka))) (lay tc ad gm dz I) := by
  intro sz
  refine x_ofW (by decide +kernel) (Nat.le_of_ble_eq_true rfl) (fun pp ee s mm bel meth cd ls X hr hin hz h hl => ?_)
  subst hz
  obtain ⟨hx, hb, hmaxL, hown, hts⟩ := id X.1
  have hl : lv_has ls 3 [(0, .ref (ad k)), (1, .ref (ad (9, b, e, d)))] := hl
  refine lv_iconst (v := nI 0) hx hb dX5_coverAll_0 (by decide) ?_
  refine lv_istore_n (lv' := [(2, .int (nI 0)), (0, .ref (ad k)), (1, .ref (ad (9, b, e, d)))]) hx hb dX5_coverAll_1 rfl hl (by decide) rfl (fun ls hl => ?_)
  refine y_loop (D := D) (A := wA ad Ks s.heap.size) (ad := ad) (Ks := Ks) (nL := 3) (fun i : Nat => lay tc ad gm dz I) (fun i => [(2, .int (nI i)), (0, .ref (ad k)), (1, .ref (ad (9, b, e, d)))]) (fun _ => []) (fun i : Nat => i ≤ 24 ∧ (∀ j, j < i → I (10, b, e, d) j ≤ I ka j)) (fun i => 24 - i) (fun i hi2 ih2 H locs ls h hl => ?_) 0 ⟨Nat.zero_le _, fun j hj => absurd hj (Nat.not_lt_zero j)⟩ (h.eq (congrArg (lay tc ad gm dz) rfl)) (lv_sub hl [0, 1, 2] rfl) rfl
  have h : Sx D (wA ad Ks s.heap.size) ad Ks (lay tc ad gm dz I) s H locs := h
  have hl : lv_has ls 3 [(2, .int (nI i)), (0, .ref (ad k)), (1, .ref (ad (9, b, e, d)))] := hl
  obtain ⟨hi2, hj2⟩ := hi2
  refine lv_iload_n hx hb dX5_coverAll_2 rfl (lv_at hl 0 rfl) ?_
  refine lv_bipush (v := nI 24) hx hb dX5_coverAll_3 (by decide) ?_
  refine n_icmp_ge (tgt := 31) hx hb (by omega) (by omega) dX5_coverAll_5 (by decide) (fun c_5 => ?_) (fun c_5 => ?_)
  · skip
    refine lv_iconst (v := nI 1) hx hb dX5_coverAll_31 (by decide) ?_
    refine x_iret X h hr (by decide) ?_ (fun _ _ => rfl) dX5_coverAll_32
    · exact cov_t (fun j hj => hj2 j (by omega))
  · skip
    refine lv_aload_n hx hb dX5_coverAll_8 rfl (lv_at hl 2 rfl) ?_
    refine gf_Copy_acts X h (hL (9, b, e, d) ⟨by omega, by omega, by omega⟩) q104 dX5_coverAll_9 ?_
    refine lv_iload_n hx hb dX5_coverAll_12 rfl (lv_at hl 0 rfl) ?_
    refine y_ald X h (fun _ => rfl) (by decide) (hL (10, b, e, d) ⟨by omega, by omega, by omega⟩) (by omega) (v := I (10, b, e, d) i) rfl dX5_coverAll_13 ?_
    refine lv_aload_n hx hb dX5_coverAll_14 rfl (lv_at hl 1 rfl) ?_
    refine gf_Numbers_numbers X h hc hk q90 dX5_coverAll_15 ?_
    refine lv_iload_n hx hb dX5_coverAll_18 rfl (lv_at hl 0 rfl) ?_
    refine y_ald X h hca (by decide) hka (by omega) (v := I ka i) rfl dX5_coverAll_19 ?_
    refine lv_icmp_le (tgt := 25) hx hb dX5_coverAll_20 (by decide) (fun c_20 => ?_) (fun c_20 => ?_)
    · skip
      refine n_iinc (j := i) (n := 1) (lv' := [(2, .int (nI (i + 1))), (0, .ref (ad k)), (1, .ref (ad (9, b, e, d)))]) hx hb dX5_coverAll_25 hl (k := 0) rfl (by decide) (by decide) rfl (fun ls hl => ?_)
      refine lv_goto (tgt := 2) hx hb dX5_coverAll_28 (by decide) ?_
      exact ih2 (i + 1) ⟨by omega, lt_s hj2 c_20⟩ (by omega) H locs ls (h.eq (congrArg (lay tc ad gm dz) rfl)) (lv_sub hl [0, 1, 2] rfl)
    · skip
      refine lv_iconst (v := nI 0) hx hb dX5_coverAll_23 (by decide) ?_
      refine x_iret X h hr (by decide) ?_ (fun _ _ => rfl) dX5_coverAll_24
      · exact cov_f c_5 c_20
