set_option maxHeartbeats 4000000 in
set_option maxRecDepth 100000 in
theorem m_L_get {l : Launch} {D : va_G} {tc : TC} {dz : Nat} {ad : KN → Nat} {Ks : List KN} {gm : GM} (I : Mem) (v : Nat → Int32) (hv : ∀ k, k < 6 → sm6 (v k)) (k : Nat) (hk : k < 6) : MI l yL_get cL_get 3 (Option.some ClassFile.FieldType.int) 0 D tc dz ad Ks (lay tc ad gm dz I) [.long (pk v), .int (nI k)] (v k) (lay tc ad gm dz I) := by
  intro sz
  refine x_ofW (by decide +kernel) (Nat.le_of_ble_eq_true rfl) (fun pp ee s mm bel meth cd ls X hr hin hz h hl => ?_)
  subst hz
  obtain ⟨hx, hb, hmaxL, hown, hts⟩ := id X.1
  have hl : lv_has ls 3 [(0, .long (pk v)), (2, .int (nI k))] := hl
  refine lv_lload_n hx hb dL_get_0 rfl (lv_at hl 0 rfl) ?_
  refine lv_bipush (v := nI 6) hx hb dL_get_1 (by decide) ?_
  refine lv_iload_n hx hb dL_get_3 rfl (lv_at hl 1 rfl) ?_
  refine n_imul hx hb dL_get_4 ?_
  refine lv_lshr (v := (pk v) >>> ((nI (6 * k)).toInt64 &&& 63)) hx hb dL_get_5 rfl ?_
  refine lv_ldc2 hx hb hown (hts _ q753) dL_get_6 ?_
  refine lv_land hx hb dL_get_9 ?_
  refine lv_l2i (v := v k) hx hb dL_get_10 (lp_get hv hk) ?_
  exact x_iret X h hr rfl rfl (fun _ _ => rfl) dL_get_11

set_option maxHeartbeats 4000000 in
set_option maxRecDepth 100000 in
theorem m_L_at {l : Launch} {D : va_G} {tc : TC} {dz : Nat} {ad : KN → Nat} {Ks : List KN} {gm : GM} (I : Mem) (d e f : Nat) : MI l yL_at cL_at 3 (Option.some ClassFile.FieldType.int) 0 D tc dz ad Ks (lay tc ad gm dz I) [.int (nI d), .int (nI e), .int (nI f)] (nI (8 * d + 4 * e + f)) (lay tc ad gm dz I) := by
  intro sz
  refine x_ofW (by decide +kernel) (Nat.le_of_ble_eq_true rfl) (fun pp ee s mm bel meth cd ls X hr hin hz h hl => ?_)
  subst hz
  obtain ⟨hx, hb, hmaxL, hown, hts⟩ := id X.1
  have hl : lv_has ls 3 [(0, .int (nI d)), (1, .int (nI e)), (2, .int (nI f))] := hl
  refine lv_bipush (v := nI 8) hx hb dL_at_0 (by decide) ?_
  refine lv_iload_n hx hb dL_at_2 rfl (lv_at hl 0 rfl) ?_
  refine n_imul hx hb dL_at_3 ?_
  refine lv_iconst (v := nI 4) hx hb dL_at_4 (by decide) ?_
  refine lv_iload_n hx hb dL_at_5 rfl (lv_at hl 1 rfl) ?_
  refine n_imul hx hb dL_at_6 ?_
  refine n_iadd hx hb dL_at_7 ?_
  refine lv_iload_n hx hb dL_at_8 rfl (lv_at hl 2 rfl) ?_
  refine n_iadd hx hb dL_at_9 ?_
  exact x_iret X h hr rfl rfl (fun _ _ => rfl) dL_at_10

set_option maxHeartbeats 4000000 in
set_option maxRecDepth 100000 in
theorem m_L_value {l : Launch} {D : va_G} {tc : TC} {dz : Nat} {ad : KN → Nat} {Ks : List KN} {gm : GM} (I : Mem) (a b : Nat) (ha : a < 1000) (hb9 : b < 1000) : MI l yL_value cL_value 2 (Option.some ClassFile.FieldType.int) 0 D tc dz ad Ks (lay tc ad gm dz I) [.int (nI a), .int (nI b)] (nI ((100 * a + 37 * b) % 1000)) (lay tc ad gm dz I) := by
  intro sz
  refine x_ofW (by decide +kernel) (Nat.le_of_ble_eq_true rfl) (fun pp ee s mm bel meth cd ls X hr hin hz h hl => ?_)
  subst hz
  obtain ⟨hx, hb, hmaxL, hown, hts⟩ := id X.1
  have hl : lv_has ls 2 [(0, .int (nI a)), (1, .int (nI b))] := hl
  refine lv_bipush (v := nI 100) hx hb dL_value_0 (by decide) ?_
  refine lv_iload_n hx hb dL_value_2 rfl (lv_at hl 0 rfl) ?_
  refine n_imul hx hb dL_value_3 ?_
  refine lv_bipush (v := nI 37) hx hb dL_value_4 (by decide) ?_
  refine lv_iload_n hx hb dL_value_6 rfl (lv_at hl 1 rfl) ?_
  refine n_imul hx hb dL_value_7 ?_
  refine n_iadd hx hb dL_value_8 ?_
  refine lv_sipush (v := nI 1000) hx hb dL_value_9 (by decide) ?_
  refine n_irem hx hb (by omega) (by omega) (by omega) dL_value_12 ?_
  exact x_iret X h hr rfl rfl (fun _ _ => rfl) dL_value_13

set_option maxHeartbeats 4000000 in
set_option maxRecDepth 100000 in
theorem m_L_greater {l : Launch} {D : va_G} {tc : TC} {dz : Nat} {ad : KN → Nat} {Ks : List KN} {gm : GM} (I : Mem) (u v : Nat → Int32) (hu : ∀ k, k < 6 → sm6 (u k)) (hv : ∀ k, k < 6 → sm6 (v k)) : ML l yL_greater cL_greater 7 (Option.some ClassFile.FieldType.long) 1 D tc dz ad Ks (lay tc ad gm dz I) [.long (pk u), .long (pk v)] (pk (gM u v)) (lay tc ad gm dz I) := by
  intro sz
  refine x_ofW (by decide +kernel) (Nat.le_of_ble_eq_true rfl) (fun pp ee s mm bel meth cd ls X hr hin hz h hl => ?_)
  subst hz
  obtain ⟨hx, hb, hmaxL, hown, hts⟩ := id X.1
  have hl : lv_has ls 7 [(0, .long (pk u)), (2, .long (pk v))] := hl
  refine lv_lconst (v := pk z0) hx hb dL_greater_0 lp_zero.symm ?_
  refine lv_lstore (lv' := [(4, .long (pk z0)), (0, .long (pk u)), (2, .long (pk v))]) hx hb dL_greater_1 hl (by decide) rfl (fun ls hl => ?_)
  refine lv_iconst (v := nI 0) hx hb dL_greater_3 (by decide) ?_
  refine lv_istore (lv' := [(6, .int (nI 0)), (4, .long (pk z0)), (0, .long (pk u)), (2, .long (pk v))]) hx hb dL_greater_4 hl (by decide) rfl (fun ls hl => ?_)
  refine y_loop (D := D) (A := wA ad Ks s.heap.size) (ad := ad) (Ks := Ks) (nL := 7) (fun i : Nat => lay tc ad gm dz I) (fun i => [(6, .int (nI i)), (4, .long (pkS (gM u v) i)), (0, .long (pk u)), (2, .long (pk v))]) (fun _ => []) (fun i : Nat => i ≤ 6) (fun i => 6 - i) (fun i hi6 ih6 H locs ls h hl => ?_) 0 (Nat.zero_le _) (h.eq (congrArg (lay tc ad gm dz) rfl)) (lv_sub hl [0, 1, 2, 3] rfl) rfl
  have h : Sx D (wA ad Ks s.heap.size) ad Ks (lay tc ad gm dz I) s H locs := h
  have hl : lv_has ls 7 [(6, .int (nI i)), (4, .long (pkS (gM u v) i)), (0, .long (pk u)), (2, .long (pk v))] := hl
  refine lv_iload hx hb dL_greater_6 (lv_at hl 0 rfl) ?_
  refine lv_bipush (v := nI 6) hx hb dL_greater_8 (by decide) ?_
  refine n_icmp_ge (tgt := 61) hx hb (by omega) (by omega) dL_greater_10 (by decide) (fun c_10 => ?_) (fun c_10 => ?_)
  · skip
    obtain rfl : i = 6 := by omega
    refine lv_lload hx hb dL_greater_61 (lv_at hl 1 rfl) ?_
    exact x_lret X h hr rfl (fun _ _ => rfl) dL_greater_63
  · skip
    refine lv_lload hx hb dL_greater_13 (lv_at hl 1 rfl) ?_
    refine lv_lload_n hx hb dL_greater_15 rfl (lv_at hl 2 rfl) ?_
    refine lv_iload hx hb dL_greater_16 (lv_at hl 0 rfl) ?_
    refine x_doneI X h (x_runS X h (m_L_get I u hu i (by omega) _) F_L_get q750 q751 rfl (by decide) (by decide) ⟨Nat.le_refl _, Nat.le_refl _⟩ hl.1 (Nat.le_of_ble_eq_true rfl) dL_greater_18 rfl) (fun H locs h => ?_)
    refine lv_lload_n hx hb dL_greater_21 rfl (lv_at hl 3 rfl) ?_
    refine lv_iload hx hb dL_greater_22 (lv_at hl 0 rfl) ?_
    refine x_doneI X h (x_runS X h (m_L_get I v hv i (by omega) _) F_L_get q750 q751 rfl (by decide) (by decide) ⟨Nat.le_refl _, Nat.le_refl _⟩ hl.1 (Nat.le_of_ble_eq_true rfl) dL_greater_24 rfl) (fun H locs h => ?_)
    refine lv_icmp_le (tgt := 39) hx hb dL_greater_27 (by decide) (fun c_27 => ?_) (fun c_27 => ?_)
    · skip
      have hq : v i = gM u v i := imax_le c_27
      refine lv_lload_n hx hb dL_greater_39 rfl (lv_at hl 3 rfl) ?_
      refine lv_iload hx hb dL_greater_40 (lv_at hl 0 rfl) ?_
      refine x_doneI X h (x_runS X h (m_L_get I v hv i (by omega) _) F_L_get q750 q751 rfl (by decide) (by decide) ⟨Nat.le_refl _, Nat.le_refl _⟩ hl.1 (Nat.le_of_ble_eq_true rfl) dL_greater_42 rfl) (fun H locs h => ?_)
      rw [hq]
      refine lv_i2l (v := ((gM u v i)).toInt64) hx hb dL_greater_45 rfl ?_
      refine lv_bipush (v := nI 6) hx hb dL_greater_46 (by decide) ?_
      refine lv_iload hx hb dL_greater_48 (lv_at hl 0 rfl) ?_
      refine n_imul hx hb dL_greater_50 ?_
      refine lv_lshl (v := (((gM u v i)).toInt64) <<< ((nI (6 * i)).toInt64 &&& 63)) hx hb dL_greater_51 rfl ?_
      refine lv_lor hx hb dL_greater_52 ?_
      rw [show (pkS (gM u v) i) ||| ((((gM u v i)).toInt64) <<< ((nI (6 * i)).toInt64 &&& 63)) = pkS (gM u v) (i + 1) from rfl]
      refine lv_lstore (lv' := [(4, .long (pkS (gM u v) (i + 1))), (6, .int (nI i)), (0, .long (pk u)), (2, .long (pk v))]) hx hb dL_greater_53 hl (by decide) rfl (fun ls hl => ?_)
      refine n_iinc (j := i) (n := 1) (lv' := [(6, .int (nI (i + 1))), (4, .long (pkS (gM u v) (i + 1))), (0, .long (pk u)), (2, .long (pk v))]) hx hb dL_greater_55 hl (k := 1) rfl (by decide) (by decide) rfl (fun ls hl => ?_)
      refine lv_goto (tgt := 6) hx hb dL_greater_58 (by decide) ?_
      exact ih6 (i + 1) (by omega) (by omega) H locs ls (h.eq (congrArg (lay tc ad gm dz) rfl)) (lv_sub hl [0, 1, 2, 3] rfl)
    · skip
      have hq : u i = gM u v i := imax_gt c_27
      refine lv_lload_n hx hb dL_greater_30 rfl (lv_at hl 2 rfl) ?_
      refine lv_iload hx hb dL_greater_31 (lv_at hl 0 rfl) ?_
      refine x_doneI X h (x_runS X h (m_L_get I u hu i (by omega) _) F_L_get q750 q751 rfl (by decide) (by decide) ⟨Nat.le_refl _, Nat.le_refl _⟩ hl.1 (Nat.le_of_ble_eq_true rfl) dL_greater_33 rfl) (fun H locs h => ?_)
      refine lv_goto (tgt := 45) hx hb dL_greater_36 (by decide) ?_
      rw [hq]
      refine lv_i2l (v := ((gM u v i)).toInt64) hx hb dL_greater_45 rfl ?_
      refine lv_bipush (v := nI 6) hx hb dL_greater_46 (by decide) ?_
      refine lv_iload hx hb dL_greater_48 (lv_at hl 0 rfl) ?_
      refine n_imul hx hb dL_greater_50 ?_
      refine lv_lshl (v := (((gM u v i)).toInt64) <<< ((nI (6 * i)).toInt64 &&& 63)) hx hb dL_greater_51 rfl ?_
      refine lv_lor hx hb dL_greater_52 ?_
      rw [show (pkS (gM u v) i) ||| ((((gM u v i)).toInt64) <<< ((nI (6 * i)).toInt64 &&& 63)) = pkS (gM u v) (i + 1) from rfl]
      refine lv_lstore (lv' := [(4, .long (pkS (gM u v) (i + 1))), (6, .int (nI i)), (0, .long (pk u)), (2, .long (pk v))]) hx hb dL_greater_53 hl (by decide) rfl (fun ls hl => ?_)
      refine n_iinc (j := i) (n := 1) (lv' := [(6, .int (nI (i + 1))), (4, .long (pkS (gM u v) (i + 1))), (0, .long (pk u)), (2, .long (pk v))]) hx hb dL_greater_55 hl (k := 1) rfl (by decide) (by decide) rfl (fun ls hl => ?_)
      refine lv_goto (tgt := 6) hx hb dL_greater_58 (by decide) ?_
      exact ih6 (i + 1) (by omega) (by omega) H locs ls (h.eq (congrArg (lay tc ad gm dz) rfl)) (lv_sub hl [0, 1, 2, 3] rfl)

set_option maxHeartbeats 4000000 in
set_option maxRecDepth 100000 in
theorem m_L_covers {l : Launch} {D : va_G} {tc : TC} {dz : Nat} {ad : KN → Nat} {Ks : List KN} {gm : GM} (I : Mem) (u v : Nat → Int32) (hu : ∀ k, k < 6 → sm6 (u k)) (hv : ∀ k, k < 6 → sm6 (v k)) : MI l yL_covers cL_covers 6 (Option.some ClassFile.FieldType.boolean) 1 D tc dz ad Ks (lay tc ad gm dz I) [.long (pk u), .long (pk v)] (bI (cvr u v)) (lay tc ad gm dz I) := by
  intro sz
  refine x_ofW (by decide +kernel) (Nat.le_of_ble_eq_true rfl) (fun pp ee s mm bel meth cd ls X hr hin hz h hl => ?_)
  subst hz
  obtain ⟨hx, hb, hmaxL, hown, hts⟩ := id X.1
  have hl : lv_has ls 6 [(0, .long (pk u)), (2, .long (pk v))] := hl
  refine lv_iconst (v := nI 1) hx hb dL_covers_0 (by decide) ?_
  refine lv_istore (lv' := [(4, .int (nI 1)), (0, .long (pk u)), (2, .long (pk v))]) hx hb dL_covers_1 hl (by decide) rfl (fun ls hl => ?_)
  refine lv_iconst (v := nI 0) hx hb dL_covers_3 (by decide) ?_
  refine lv_istore (lv' := [(5, .int (nI 0)), (4, .int (nI 1)), (0, .long (pk u)), (2, .long (pk v))]) hx hb dL_covers_4 hl (by decide) rfl (fun ls hl => ?_)
  refine y_loop (D := D) (A := wA ad Ks s.heap.size) (ad := ad) (Ks := Ks) (nL := 6) (fun i : Nat => lay tc ad gm dz I) (fun i => [(5, .int (nI i)), (4, .int (bI (allB (fun k => !decide (u k < v k)) i))), (0, .long (pk u)), (2, .long (pk v))]) (fun _ => []) (fun i : Nat => i ≤ 6) (fun i => 6 - i) (fun i hi6 ih6 H locs ls h hl => ?_) 0 (Nat.zero_le _) (h.eq (congrArg (lay tc ad gm dz) rfl)) (lv_sub hl [0, 1, 2, 3] rfl) rfl
  have h : Sx D (wA ad Ks s.heap.size) ad Ks (lay tc ad gm dz I) s H locs := h
  have hl : lv_has ls 6 [(5, .int (nI i)), (4, .int (bI (allB (fun k => !decide (u k < v k)) i))), (0, .long (pk u)), (2, .long (pk v))] := hl
  refine lv_iload hx hb dL_covers_6 (lv_at hl 0 rfl) ?_
  refine lv_bipush (v := nI 6) hx hb dL_covers_8 (by decide) ?_
  refine n_icmp_ge (tgt := 46) hx hb (by omega) (by omega) dL_covers_10 (by decide) (fun c_10 => ?_) (fun c_10 => ?_)
  · skip
    obtain rfl : i = 6 := by omega
    refine lv_iload hx hb dL_covers_46 (lv_at hl 1 rfl) ?_
    exact x_iret X h hr (bI_nar _) rfl (fun _ _ => rfl) dL_covers_48
  · skip
    refine lv_iload hx hb dL_covers_13 (lv_at hl 1 rfl) ?_
    refine b_if_eq (tgt := 37) hx hb dL_covers_15 (by decide) (fun c_15 => ?_) (fun c_15 => ?_)
    · skip
      have hq : false = allB (fun k => !decide (u k < v k)) (i + 1) := by rw [allB, c_15]; rfl
      refine lv_iconst (v := nI 0) hx hb dL_covers_37 (by decide) ?_
      rw [show nI 0 = bI (false) from rfl, hq]
      refine lv_istore (lv' := [(4, .int (bI (allB (fun k => !decide (u k < v k)) (i + 1)))), (5, .int (nI i)), (0, .long (pk u)), (2, .long (pk v))]) hx hb dL_covers_38 hl (by decide) rfl (fun ls hl => ?_)
      refine n_iinc (j := i) (n := 1) (lv' := [(5, .int (nI (i + 1))), (4, .int (bI (allB (fun k => !decide (u k < v k)) (i + 1)))), (0, .long (pk u)), (2, .long (pk v))]) hx hb dL_covers_40 hl (k := 1) rfl (by decide) (by decide) rfl (fun ls hl => ?_)
      refine lv_goto (tgt := 6) hx hb dL_covers_43 (by decide) ?_
      exact ih6 (i + 1) (by omega) (by omega) H locs ls (h.eq (congrArg (lay tc ad gm dz) rfl)) (lv_sub hl [0, 1, 2, 3] rfl)
    · skip
      refine lv_lload_n hx hb dL_covers_18 rfl (lv_at hl 3 rfl) ?_
      refine lv_iload hx hb dL_covers_19 (lv_at hl 0 rfl) ?_
      refine x_doneI X h (x_runS X h (m_L_get I v hv i (by omega) _) F_L_get q750 q751 rfl (by decide) (by decide) ⟨Nat.le_refl _, Nat.le_refl _⟩ hl.1 (Nat.le_of_ble_eq_true rfl) dL_covers_21 rfl) (fun H locs h => ?_)
      refine lv_lload_n hx hb dL_covers_24 rfl (lv_at hl 2 rfl) ?_
      refine lv_iload hx hb dL_covers_25 (lv_at hl 0 rfl) ?_
      refine x_doneI X h (x_runS X h (m_L_get I u hu i (by omega) _) F_L_get q750 q751 rfl (by decide) (by decide) ⟨Nat.le_refl _, Nat.le_refl _⟩ hl.1 (Nat.le_of_ble_eq_true rfl) dL_covers_27 rfl) (fun H locs h => ?_)
      refine lv_icmp_gt (tgt := 37) hx hb dL_covers_30 (by decide) (fun c_30 => ?_) (fun c_30 => ?_)
      · skip
        have hq : false = allB (fun k => !decide (u k < v k)) (i + 1) := by rw [allB, show (!decide (u i < v i)) = false by rw [decide_eq_true c_30]; rfl, Bool.and_false]
        refine lv_iconst (v := nI 0) hx hb dL_covers_37 (by decide) ?_
        rw [show nI 0 = bI (false) from rfl, hq]
        refine lv_istore (lv' := [(4, .int (bI (allB (fun k => !decide (u k < v k)) (i + 1)))), (5, .int (nI i)), (0, .long (pk u)), (2, .long (pk v))]) hx hb dL_covers_38 hl (by decide) rfl (fun ls hl => ?_)
        refine n_iinc (j := i) (n := 1) (lv' := [(5, .int (nI (i + 1))), (4, .int (bI (allB (fun k => !decide (u k < v k)) (i + 1)))), (0, .long (pk u)), (2, .long (pk v))]) hx hb dL_covers_40 hl (k := 1) rfl (by decide) (by decide) rfl (fun ls hl => ?_)
        refine lv_goto (tgt := 6) hx hb dL_covers_43 (by decide) ?_
        exact ih6 (i + 1) (by omega) (by omega) H locs ls (h.eq (congrArg (lay tc ad gm dz) rfl)) (lv_sub hl [0, 1, 2, 3] rfl)
      · skip
        have hq : true = allB (fun k => !decide (u k < v k)) (i + 1) := by rw [allB, c_15, show (!decide (u i < v i)) = true by rw [decide_eq_false c_30]; rfl, Bool.and_true]
        refine lv_iconst (v := nI 1) hx hb dL_covers_33 (by decide) ?_
        refine lv_goto (tgt := 38) hx hb dL_covers_34 (by decide) ?_
        rw [show nI 1 = bI (true) from rfl, hq]
        refine lv_istore (lv' := [(4, .int (bI (allB (fun k => !decide (u k < v k)) (i + 1)))), (5, .int (nI i)), (0, .long (pk u)), (2, .long (pk v))]) hx hb dL_covers_38 hl (by decide) rfl (fun ls hl => ?_)
        refine n_iinc (j := i) (n := 1) (lv' := [(5, .int (nI (i + 1))), (4, .int (bI (allB (fun k => !decide (u k < v k)) (i + 1)))), (0, .long (pk u)), (2, .long (pk v))]) hx hb dL_covers_40 hl (k := 1) rfl (by decide) (by decide) rfl (fun ls hl => ?_)
        refine lv_goto (tgt := 6) hx hb dL_covers_43 (by decide) ?_
        exact ih6 (i + 1) (by omega) (by omega) H locs ls (h.eq (congrArg (lay tc ad gm dz) rfl)) (lv_sub hl [0, 1, 2, 3] rfl)

set_option maxHeartbeats 4000000 in
set_option maxRecDepth 100000 in
theorem m_L_count {l : Launch} {D : va_G} {tc : TC} {dz : Nat} {ad : KN → Nat} {Ks : List KN} {gm : GM} (I : Mem) (v : Nat → Int32) (hv : ∀ k, k < 6 → sm6 (v k)) : MI l yL_count cL_count 4 (Option.some ClassFile.FieldType.int) 1 D tc dz ad Ks (lay tc ad gm dz I) [.long (pk v)] (nI (ctv v)) (lay tc ad gm dz I) := by
  intro sz
  refine x_ofW (by decide +kernel) (Nat.le_of_ble_eq_true rfl) (fun pp ee s mm bel meth cd ls X hr hin hz h hl => ?_)
  subst hz
  obtain ⟨hx, hb, hmaxL, hown, hts⟩ := id X.1
  have hl : lv_has ls 4 [(0, .long (pk v))] := hl
  refine lv_iconst (v := nI 0) hx hb dL_count_0 (by decide) ?_
  refine lv_istore_n (lv' := [(2, .int (nI 0)), (0, .long (pk v))]) hx hb dL_count_1 rfl hl (by decide) rfl (fun ls hl => ?_)
  refine lv_iconst (v := nI 0) hx hb dL_count_2 (by decide) ?_
  refine lv_istore_n (lv' := [(3, .int (nI 0)), (2, .int (nI 0)), (0, .long (pk v))]) hx hb dL_count_3 rfl hl (by decide) rfl (fun ls hl => ?_)
  refine y_loop (D := D) (A := wA ad Ks s.heap.size) (ad := ad) (Ks := Ks) (nL := 4) (fun i : Nat => lay tc ad gm dz I) (fun i => [(3, .int (nI i)), (2, .int (nI (cntN (fun k => decide (0 < v k)) i))), (0, .long (pk v))]) (fun _ => []) (fun i : Nat => i ≤ 6) (fun i => 6 - i) (fun i hi4 ih4 H locs ls h hl => ?_) 0 (Nat.zero_le _) (h.eq (congrArg (lay tc ad gm dz) rfl)) (lv_sub hl [0, 1, 2] rfl) rfl
  have h : Sx D (wA ad Ks s.heap.size) ad Ks (lay tc ad gm dz I) s H locs := h
  have hl : lv_has ls 4 [(3, .int (nI i)), (2, .int (nI (cntN (fun k => decide (0 < v k)) i))), (0, .long (pk v))] := hl
  refine lv_iload_n hx hb dL_count_4 rfl (lv_at hl 0 rfl) ?_
  refine lv_bipush (v := nI 6) hx hb dL_count_5 (by decide) ?_
  refine n_icmp_ge (tgt := 32) hx hb (by omega) (by omega) dL_count_7 (by decide) (fun c_7 => ?_) (fun c_7 => ?_)
  · skip
    obtain rfl : i = 6 := by omega
    refine lv_iload_n hx hb dL_count_32 rfl (lv_at hl 1 rfl) ?_
    exact x_iret X h hr rfl rfl (fun _ _ => rfl) dL_count_33
  · skip
    refine lv_iload_n hx hb dL_count_10 rfl (lv_at hl 1 rfl) ?_
    refine lv_lload_n hx hb dL_count_11 rfl (lv_at hl 2 rfl) ?_
    refine lv_iload_n hx hb dL_count_12 rfl (lv_at hl 0 rfl) ?_
    refine x_doneI X h (x_runS X h (m_L_get I v hv i (by omega) _) F_L_get q750 q751 rfl (by decide) (by decide) ⟨Nat.le_refl _, Nat.le_refl _⟩ hl.1 (Nat.le_of_ble_eq_true rfl) dL_count_13 rfl) (fun H locs h => ?_)
    refine lv_if_le (tgt := 23) hx hb dL_count_16 (by decide) (fun c_16 => ?_) (fun c_16 => ?_)
    · skip
      have hcn : cntN (fun k => decide (0 < v k)) i + 0 = cntN (fun k => decide (0 < v k)) (i + 1) := (cntN_n (p := fun k => decide (0 < v k)) (by exact decide_eq_false (le_not_lt c_16))).symm
      refine lv_iconst (v := nI 0) hx hb dL_count_23 (by decide) ?_
      refine n_iadd hx hb dL_count_24 ?_
      rw [hcn]
      refine lv_istore_n (lv' := [(2, .int (nI (cntN (fun k => decide (0 < v k)) (i + 1)))), (3, .int (nI i)), (0, .long (pk v))]) hx hb dL_count_25 rfl hl (by decide) rfl (fun ls hl => ?_)
      refine n_iinc (j := i) (n := 1) (lv' := [(3, .int (nI (i + 1))), (2, .int (nI (cntN (fun k => decide (0 < v k)) (i + 1)))), (0, .long (pk v))]) hx hb dL_count_26 hl (k := 1) rfl (by decide) (by decide) rfl (fun ls hl => ?_)
      refine lv_goto (tgt := 4) hx hb dL_count_29 (by decide) ?_
      exact ih4 (i + 1) (by omega) (by omega) H locs ls (h.eq (congrArg (lay tc ad gm dz) rfl)) (lv_sub hl [0, 1, 2] rfl)
    · skip
      have hcn : cntN (fun k => decide (0 < v k)) i + 1 = cntN (fun k => decide (0 < v k)) (i + 1) := (cntN_y (p := fun k => decide (0 < v k)) (by exact decide_eq_true (not_le_lt c_16))).symm
      refine lv_iconst (v := nI 1) hx hb dL_count_19 (by decide) ?_
      refine lv_goto (tgt := 24) hx hb dL_count_20 (by decide) ?_
      refine n_iadd hx hb dL_count_24 ?_
      rw [hcn]
      refine lv_istore_n (lv' := [(2, .int (nI (cntN (fun k => decide (0 < v k)) (i + 1)))), (3, .int (nI i)), (0, .long (pk v))]) hx hb dL_count_25 rfl hl (by decide) rfl (fun ls hl => ?_)
      refine n_iinc (j := i) (n := 1) (lv' := [(3, .int (nI (i + 1))), (2, .int (nI (cntN (fun k => decide (0 < v k)) (i + 1)))), (0, .long (pk v))]) hx hb dL_count_26 hl (k := 1) rfl (by decide) (by decide) rfl (fun ls hl => ?_)
      refine lv_goto (tgt := 4) hx hb dL_count_29 (by decide) ?_
      exact ih4 (i + 1) (by omega) (by omega) H locs ls (h.eq (congrArg (lay tc ad gm dz) rfl)) (lv_sub hl [0, 1, 2] rfl)

set_option maxHeartbeats 4000000 in
set_option maxRecDepth 100000 in
theorem m_L_fresh {l : Launch} {D : va_G} {tc : TC} {dz : Nat} {ad : KN → Nat} {Ks : List KN} {gm : GM} (I : Mem) (u v : Nat → Int32) (hu : ∀ k, k < 6 → sm6 (u k)) (hv : ∀ k, k < 6 → sm6 (v k)) : MI l yL_fresh cL_fresh 6 (Option.some ClassFile.FieldType.int) 1 D tc dz ad Ks (lay tc ad gm dz I) [.long (pk u), .long (pk v)] (nI (frs u v)) (lay tc ad gm dz I) := by
  intro sz
  refine x_ofW (by decide +kernel) (Nat.le_of_ble_eq_true rfl) (fun pp ee s mm bel meth cd ls X hr hin hz h hl => ?_)
  subst hz
  obtain ⟨hx, hb, hmaxL, hown, hts⟩ := id X.1
  have hl : lv_has ls 6 [(0, .long (pk u)), (2, .long (pk v))] := hl
  refine lv_iconst (v := nI 0) hx hb dL_fresh_0 (by decide) ?_
  refine lv_istore (lv' := [(4, .int (nI 0)), (0, .long (pk u)), (2, .long (pk v))]) hx hb dL_fresh_1 hl (by decide) rfl (fun ls hl => ?_)
  refine lv_iconst (v := nI 0) hx hb dL_fresh_3 (by decide) ?_
  refine lv_istore (lv' := [(5, .int (nI 0)), (4, .int (nI 0)), (0, .long (pk u)), (2, .long (pk v))]) hx hb dL_fresh_4 hl (by decide) rfl (fun ls hl => ?_)
  refine y_loop (D := D) (A := wA ad Ks s.heap.size) (ad := ad) (Ks := Ks) (nL := 6) (fun i : Nat => lay tc ad gm dz I) (fun i => [(5, .int (nI i)), (4, .int (nI (cntN (fun k => decide (0 < v k) && !decide (v k = u k)) i))), (0, .long (pk u)), (2, .long (pk v))]) (fun _ => []) (fun i : Nat => i ≤ 6) (fun i => 6 - i) (fun i hi6 ih6 H locs ls h hl => ?_) 0 (Nat.zero_le _) (h.eq (congrArg (lay tc ad gm dz) rfl)) (lv_sub hl [0, 1, 2, 3] rfl) rfl
  have h : Sx D (wA ad Ks s.heap.size) ad Ks (lay tc ad gm dz I) s H locs := h
  have hl : lv_has ls 6 [(5, .int (nI i)), (4, .int (nI (cntN (fun k => decide (0 < v k) && !decide (v k = u k)) i))), (0, .long (pk u)), (2, .long (pk v))] := hl
  refine lv_iload hx hb dL_fresh_6 (lv_at hl 0 rfl) ?_
  refine lv_bipush (v := nI 6) hx hb dL_fresh_8 (by decide) ?_
  refine n_icmp_ge (tgt := 53) hx hb (by omega) (by omega) dL_fresh_10 (by decide) (fun c_10 => ?_) (fun c_10 => ?_)
  · skip
    obtain rfl : i = 6 := by omega
    refine lv_iload hx hb dL_fresh_53 (lv_at hl 1 rfl) ?_
    exact x_iret X h hr rfl rfl (fun _ _ => rfl) dL_fresh_55
  · skip
    refine lv_iload hx hb dL_fresh_13 (lv_at hl 1 rfl) ?_
    refine lv_lload_n hx hb dL_fresh_15 rfl (lv_at hl 3 rfl) ?_
    refine lv_iload hx hb dL_fresh_16 (lv_at hl 0 rfl) ?_
    refine x_doneI X h (x_runS X h (m_L_get I v hv i (by omega) _) F_L_get q750 q751 rfl (by decide) (by decide) ⟨Nat.le_refl _, Nat.le_refl _⟩ hl.1 (Nat.le_of_ble_eq_true rfl) dL_fresh_18 rfl) (fun H locs h => ?_)
    refine lv_if_le (tgt := 43) hx hb dL_fresh_21 (by decide) (fun c_21 => ?_) (fun c_21 => ?_)
    · skip
      have hcn : cntN (fun k => decide (0 < v k) && !decide (v k = u k)) i + 0 = cntN (fun k => decide (0 < v k) && !decide (v k = u k)) (i + 1) := (cntN_n (p := fun k => decide (0 < v k) && !decide (v k = u k)) (by simp only [decide_eq_false (le_not_lt c_21), Bool.false_and])).symm
      refine lv_iconst (v := nI 0) hx hb dL_fresh_43 (by decide) ?_
      refine n_iadd hx hb dL_fresh_44 ?_
      rw [hcn]
      refine lv_istore (lv' := [(4, .int (nI (cntN (fun k => decide (0 < v k) && !decide (v k = u k)) (i + 1)))), (5, .int (nI i)), (0, .long (pk u)), (2, .long (pk v))]) hx hb dL_fresh_45 hl (by decide) rfl (fun ls hl => ?_)
      refine n_iinc (j := i) (n := 1) (lv' := [(5, .int (nI (i + 1))), (4, .int (nI (cntN (fun k => decide (0 < v k) && !decide (v k = u k)) (i + 1)))), (0, .long (pk u)), (2, .long (pk v))]) hx hb dL_fresh_47 hl (k := 1) rfl (by decide) (by decide) rfl (fun ls hl => ?_)
      refine lv_goto (tgt := 6) hx hb dL_fresh_50 (by decide) ?_
      exact ih6 (i + 1) (by omega) (by omega) H locs ls (h.eq (congrArg (lay tc ad gm dz) rfl)) (lv_sub hl [0, 1, 2, 3] rfl)
    · skip
      refine lv_lload_n hx hb dL_fresh_24 rfl (lv_at hl 3 rfl) ?_
      refine lv_iload hx hb dL_fresh_25 (lv_at hl 0 rfl) ?_
      refine x_doneI X h (x_runS X h (m_L_get I v hv i (by omega) _) F_L_get q750 q751 rfl (by decide) (by decide) ⟨Nat.le_refl _, Nat.le_refl _⟩ hl.1 (Nat.le_of_ble_eq_true rfl) dL_fresh_27 rfl) (fun H locs h => ?_)
      refine lv_lload_n hx hb dL_fresh_30 rfl (lv_at hl 2 rfl) ?_
      refine lv_iload hx hb dL_fresh_31 (lv_at hl 0 rfl) ?_
      refine x_doneI X h (x_runS X h (m_L_get I u hu i (by omega) _) F_L_get q750 q751 rfl (by decide) (by decide) ⟨Nat.le_refl _, Nat.le_refl _⟩ hl.1 (Nat.le_of_ble_eq_true rfl) dL_fresh_33 rfl) (fun H locs h => ?_)
      refine lv_icmp_eq (tgt := 43) hx hb dL_fresh_36 (by decide) (fun c_36 => ?_) (fun c_36 => ?_)
      · skip
        have hcn : cntN (fun k => decide (0 < v k) && !decide (v k = u k)) i + 0 = cntN (fun k => decide (0 < v k) && !decide (v k = u k)) (i + 1) := (cntN_n (p := fun k => decide (0 < v k) && !decide (v k = u k)) (by simp only [c_36, decide_true, Bool.not_true, Bool.and_false])).symm
        refine lv_iconst (v := nI 0) hx hb dL_fresh_43 (by decide) ?_
        refine n_iadd hx hb dL_fresh_44 ?_
        rw [hcn]
        refine lv_istore (lv' := [(4, .int (nI (cntN (fun k => decide (0 < v k) && !decide (v k = u k)) (i + 1)))), (5, .int (nI i)), (0, .long (pk u)), (2, .long (pk v))]) hx hb dL_fresh_45 hl (by decide) rfl (fun ls hl => ?_)
        refine n_iinc (j := i) (n := 1) (lv' := [(5, .int (nI (i + 1))), (4, .int (nI (cntN (fun k => decide (0 < v k) && !decide (v k = u k)) (i + 1)))), (0, .long (pk u)), (2, .long (pk v))]) hx hb dL_fresh_47 hl (k := 1) rfl (by decide) (by decide) rfl (fun ls hl => ?_)
        refine lv_goto (tgt := 6) hx hb dL_fresh_50 (by decide) ?_
        exact ih6 (i + 1) (by omega) (by omega) H locs ls (h.eq (congrArg (lay tc ad gm dz) rfl)) (lv_sub hl [0, 1, 2, 3] rfl)
      · skip
        have hcn : cntN (fun k => decide (0 < v k) && !decide (v k = u k)) i + 1 = cntN (fun k => decide (0 < v k) && !decide (v k = u k)) (i + 1) := (cntN_y (p := fun k => decide (0 < v k) && !decide (v k = u k)) (by simp only [decide_eq_true (not_le_lt c_21), decide_eq_false c_36, Bool.not_false, Bool.and_true])).symm
        refine lv_iconst (v := nI 1) hx hb dL_fresh_39 (by decide) ?_
        refine lv_goto (tgt := 44) hx hb dL_fresh_40 (by decide) ?_
        refine n_iadd hx hb dL_fresh_44 ?_
        rw [hcn]
        refine lv_istore (lv' := [(4, .int (nI (cntN (fun k => decide (0 < v k) && !decide (v k = u k)) (i + 1)))), (5, .int (nI i)), (0, .long (pk u)), (2, .long (pk v))]) hx hb dL_fresh_45 hl (by decide) rfl (fun ls hl => ?_)
        refine n_iinc (j := i) (n := 1) (lv' := [(5, .int (nI (i + 1))), (4, .int (nI (cntN (fun k => decide (0 < v k) && !decide (v k = u k)) (i + 1)))), (0, .long (pk u)), (2, .long (pk v))]) hx hb dL_fresh_47 hl (k := 1) rfl (by decide) (by decide) rfl (fun ls hl => ?_)
        refine lv_goto (tgt := 6) hx hb dL_fresh_50 (by decide) ?_
        exact ih6 (i + 1) (by omega) (by omega) H locs ls (h.eq (congrArg (lay tc ad gm dz) rfl)) (lv_sub hl [0, 1, 2, 3] rfl)

set_option maxHeartbeats 4000000 in
set_option maxRecDepth 100000 in
theorem m_L_joined {l : Launch} {D : va_G} {tc : TC} {dz : Nat} {ad : KN → Nat} {Ks : List KN} {gm : GM} (I : Mem) (a b x y : Nat → Int32) (ha : ∀ k, k < 6 → sm6 (a k)) (hb9 : ∀ k, k < 6 → sm6 (b k)) (hx9 : ∀ k, k < 6 → sm6 (x k)) (hy : ∀ k, k < 6 → sm6 (y k)) : ML l yL_joined cL_joined 14 (Option.some ClassFile.FieldType.long) 1 D tc dz ad Ks (lay tc ad gm dz I) [.long (pk a), .long (pk b), .long (pk x), .long (pk y)] (pk (jnd a b x y)) (lay tc ad gm dz I) := by
  intro sz
  refine x_ofW (by decide +kernel) (Nat.le_of_ble_eq_true rfl) (fun pp ee s mm bel meth cd ls X hr hin hz h hl => ?_)
  subst hz
  obtain ⟨hx, hb, hmaxL, hown, hts⟩ := id X.1
  have hl : lv_has ls 14 [(0, .long (pk a)), (2, .long (pk b)), (4, .long (pk x)), (6, .long (pk y))] := hl
  refine lv_lconst (v := pk z0) hx hb dL_joined_0 lp_zero.symm ?_
  refine lv_lstore (lv' := [(8, .long (pk z0)), (0, .long (pk a)), (2, .long (pk b)), (4, .long (pk x)), (6, .long (pk y))]) hx hb dL_joined_1 hl (by decide) rfl (fun ls hl => ?_)
  refine lv_iconst (v := nI 0) hx hb dL_joined_3 (by decide) ?_
  refine lv_istore (lv' := [(10, .int (nI 0)), (8, .long (pk z0)), (0, .long (pk a)), (2, .long (pk b)), (4, .long (pk x)), (6, .long (pk y))]) hx hb dL_joined_4 hl (by decide) rfl (fun ls hl => ?_)
  refine y_loop (D := D) (A := wA ad Ks s.heap.size) (ad := ad) (Ks := Ks) (nL := 14) (fun i : Nat => lay tc ad gm dz I) (fun i => [(10, .int (nI i)), (8, .long (pkS (jnd a b x y) i)), (0, .long (pk a)), (2, .long (pk b)), (4, .long (pk x)), (6, .long (pk y))]) (fun _ => []) (fun i : Nat => i ≤ 6) (fun i => 6 - i) (fun i hi6 ih6 H locs ls h hl => ?_) 0 (Nat.zero_le _) (h.eq (congrArg (lay tc ad gm dz) rfl)) (lv_sub hl [0, 1, 2, 3, 4, 5] rfl) rfl
  have h : Sx D (wA ad Ks s.heap.size) ad Ks (lay tc ad gm dz I) s H locs := h
  have hl : lv_has ls 14 [(10, .int (nI i)), (8, .long (pkS (jnd a b x y) i)), (0, .long (pk a)), (2, .long (pk b)), (4, .long (pk x)), (6, .long (pk y))] := hl
  refine lv_iload hx hb dL_joined_6 (lv_at hl 0 rfl) ?_
  refine lv_bipush (v := nI 6) hx hb dL_joined_8 (by decide) ?_
  refine n_icmp_ge (tgt := 98) hx hb (by omega) (by omega) dL_joined_10 (by decide) (fun c_10 => ?_) (fun c_10 => ?_)
  · skip
    obtain rfl : i = 6 := by omega
    refine lv_lload hx hb dL_joined_98 (lv_at hl 1 rfl) ?_
    exact x_lret X h hr rfl (fun _ _ => rfl) dL_joined_100
  · skip
    refine lv_lload_n hx hb dL_joined_13 rfl (lv_at hl 2 rfl) ?_
    refine lv_iload hx hb dL_joined_14 (lv_at hl 0 rfl) ?_
    refine x_doneI X h (x_runS X h (m_L_get I a ha i (by omega) _) F_L_get q750 q751 rfl (by decide) (by decide) ⟨Nat.le_refl _, Nat.le_refl _⟩ hl.1 (Nat.le_of_ble_eq_true rfl) dL_joined_16 rfl) (fun H locs h => ?_)
    refine lv_istore (lv' := [(11, .int (a i)), (10, .int (nI i)), (8, .long (pkS (jnd a b x y) i)), (0, .long (pk a)), (2, .long (pk b)), (4, .long (pk x)), (6, .long (pk y))]) hx hb dL_joined_19 hl (by decide) rfl (fun ls hl => ?_)
    refine lv_lload_n hx hb dL_joined_21 rfl (lv_at hl 4 rfl) ?_
    refine lv_iload hx hb dL_joined_22 (lv_at hl 1 rfl) ?_
    refine x_doneI X h (x_runS X h (m_L_get I b hb9 i (by omega) _) F_L_get q750 q751 rfl (by decide) (by decide) ⟨Nat.le_refl _, Nat.le_refl _⟩ hl.1 (Nat.le_of_ble_eq_true rfl) dL_joined_24 rfl) (fun H locs h => ?_)
    refine lv_istore (lv' := [(12, .int (b i)), (11, .int (a i)), (10, .int (nI i)), (8, .long (pkS (jnd a b x y) i)), (0, .long (pk a)), (2, .long (pk b)), (4, .long (pk x)), (6, .long (pk y))]) hx hb dL_joined_27 hl (by decide) rfl (fun ls hl => ?_)
    refine lv_iload hx hb dL_joined_29 (lv_at hl 1 rfl) ?_
    refine lv_iload hx hb dL_joined_31 (lv_at hl 0 rfl) ?_
    refine lv_icmp_ne (tgt := 41) hx hb dL_joined_33 (by decide) (fun c_33 => ?_) (fun c_33 => ?_)
    · skip
      refine lv_iload hx hb dL_joined_41 (lv_at hl 1 rfl) ?_
      refine lv_lload hx hb dL_joined_43 (lv_at hl 7 rfl) ?_
      refine lv_iload hx hb dL_joined_45 (lv_at hl 2 rfl) ?_
      refine x_doneI X h (x_runS X h (m_L_get I y hy i (by omega) _) F_L_get q750 q751 rfl (by decide) (by decide) ⟨Nat.le_refl _, Nat.le_refl _⟩ hl.1 (Nat.le_of_ble_eq_true rfl) dL_joined_47 rfl) (fun H locs h => ?_)
      refine lv_icmp_le (tgt := 58) hx hb dL_joined_50 (by decide) (fun c_50 => ?_) (fun c_50 => ?_)
      · skip
        refine lv_iload hx hb dL_joined_58 (lv_at hl 0 rfl) ?_
        refine lv_lload hx hb dL_joined_60 (lv_at hl 6 rfl) ?_
        refine lv_iload hx hb dL_joined_62 (lv_at hl 2 rfl) ?_
        refine x_doneI X h (x_runS X h (m_L_get I x hx9 i (by omega) _) F_L_get q750 q751 rfl (by decide) (by decide) ⟨Nat.le_refl _, Nat.le_refl _⟩ hl.1 (Nat.le_of_ble_eq_true rfl) dL_joined_64 rfl) (fun H locs h => ?_)
        refine lv_icmp_le (tgt := 75) hx hb dL_joined_67 (by decide) (fun c_67 => ?_) (fun c_67 => ?_)
        · skip
          have hq : nI 0 = jnd a b x y i := by unfold jnd; rw [if_neg c_33, if_neg (le_not_lt c_50), if_neg (le_not_lt c_67)]; rfl
          refine lv_iconst (v := nI 0) hx hb dL_joined_75 (by decide) ?_
          rw [hq]
          refine lv_istore (lv' := [(13, .int (jnd a b x y i)), (12, .int (b i)), (11, .int (a i)), (10, .int (nI i)), (8, .long (pkS (jnd a b x y) i)), (0, .long (pk a)), (2, .long (pk b)), (4, .long (pk x)), (6, .long (pk y))]) hx hb dL_joined_76 hl (by decide) rfl (fun ls hl => ?_)
          refine lv_lload hx hb dL_joined_78 (lv_at hl 4 rfl) ?_
          refine lv_iload hx hb dL_joined_80 (lv_at hl 0 rfl) ?_
          refine lv_i2l (v := ((jnd a b x y i)).toInt64) hx hb dL_joined_82 rfl ?_
          refine lv_bipush (v := nI 6) hx hb dL_joined_83 (by decide) ?_
          refine lv_iload hx hb dL_joined_85 (lv_at hl 3 rfl) ?_
          refine n_imul hx hb dL_joined_87 ?_
          refine lv_lshl (v := (((jnd a b x y i)).toInt64) <<< ((nI (6 * i)).toInt64 &&& 63)) hx hb dL_joined_88 rfl ?_
          refine lv_lor hx hb dL_joined_89 ?_
          rw [show (pkS (jnd a b x y) i) ||| ((((jnd a b x y i)).toInt64) <<< ((nI (6 * i)).toInt64 &&& 63)) = pkS (jnd a b x y) (i + 1) from rfl]
          refine lv_lstore (lv' := [(8, .long (pkS (jnd a b x y) (i + 1))), (13, .int (jnd a b x y i)), (12, .int (b i)), (11, .int (a i)), (10, .int (nI i)), (0, .long (pk a)), (2, .long (pk b)), (4, .long (pk x)), (6, .long (pk y))]) hx hb dL_joined_90 hl (by decide) rfl (fun ls hl => ?_)
          refine n_iinc (j := i) (n := 1) (lv' := [(10, .int (nI (i + 1))), (8, .long (pkS (jnd a b x y) (i + 1))), (13, .int (jnd a b x y i)), (12, .int (b i)), (11, .int (a i)), (0, .long (pk a)), (2, .long (pk b)), (4, .long (pk x)), (6, .long (pk y))]) hx hb dL_joined_92 hl (k := 4) rfl (by decide) (by decide) rfl (fun ls hl => ?_)
          refine lv_goto (tgt := 6) hx hb dL_joined_95 (by decide) ?_
          exact ih6 (i + 1) (by omega) (by omega) H locs ls (h.eq (congrArg (lay tc ad gm dz) rfl)) (lv_sub hl [0, 1, 5, 6, 7, 8] rfl)
        · skip
          have hq : b i = jnd a b x y i := by unfold jnd; rw [if_neg c_33, if_neg (le_not_lt c_50), if_pos (not_le_lt c_67)]
          refine lv_iload hx hb dL_joined_70 (lv_at hl 0 rfl) ?_
          refine lv_goto (tgt := 76) hx hb dL_joined_72 (by decide) ?_
          rw [hq]
          refine lv_istore (lv' := [(13, .int (jnd a b x y i)), (12, .int (b i)), (11, .int (a i)), (10, .int (nI i)), (8, .long (pkS (jnd a b x y) i)), (0, .long (pk a)), (2, .long (pk b)), (4, .long (pk x)), (6, .long (pk y))]) hx hb dL_joined_76 hl (by decide) rfl (fun ls hl => ?_)
          refine lv_lload hx hb dL_joined_78 (lv_at hl 4 rfl) ?_
          refine lv_iload hx hb dL_joined_80 (lv_at hl 0 rfl) ?_
          refine lv_i2l (v := ((jnd a b x y i)).toInt64) hx hb dL_joined_82 rfl ?_
          refine lv_bipush (v := nI 6) hx hb dL_joined_83 (by decide) ?_
          refine lv_iload hx hb dL_joined_85 (lv_at hl 3 rfl) ?_
          refine n_imul hx hb dL_joined_87 ?_
          refine lv_lshl (v := (((jnd a b x y i)).toInt64) <<< ((nI (6 * i)).toInt64 &&& 63)) hx hb dL_joined_88 rfl ?_
          refine lv_lor hx hb dL_joined_89 ?_
          rw [show (pkS (jnd a b x y) i) ||| ((((jnd a b x y i)).toInt64) <<< ((nI (6 * i)).toInt64 &&& 63)) = pkS (jnd a b x y) (i + 1) from rfl]
          refine lv_lstore (lv' := [(8, .long (pkS (jnd a b x y) (i + 1))), (13, .int (jnd a b x y i)), (12, .int (b i)), (11, .int (a i)), (10, .int (nI i)), (0, .long (pk a)), (2, .long (pk b)), (4, .long (pk x)), (6, .long (pk y))]) hx hb dL_joined_90 hl (by decide) rfl (fun ls hl => ?_)
          refine n_iinc (j := i) (n := 1) (lv' := [(10, .int (nI (i + 1))), (8, .long (pkS (jnd a b x y) (i + 1))), (13, .int (jnd a b x y i)), (12, .int (b i)), (11, .int (a i)), (0, .long (pk a)), (2, .long (pk b)), (4, .long (pk x)), (6, .long (pk y))]) hx hb dL_joined_92 hl (k := 4) rfl (by decide) (by decide) rfl (fun ls hl => ?_)
          refine lv_goto (tgt := 6) hx hb dL_joined_95 (by decide) ?_
          exact ih6 (i + 1) (by omega) (by omega) H locs ls (h.eq (congrArg (lay tc ad gm dz) rfl)) (lv_sub hl [0, 1, 5, 6, 7, 8] rfl)
      · skip
        have hq : a i = jnd a b x y i := by unfold jnd; rw [if_neg c_33, if_pos (not_le_lt c_50)]
        refine lv_iload hx hb dL_joined_53 (lv_at hl 1 rfl) ?_
        refine lv_goto (tgt := 76) hx hb dL_joined_55 (by decide) ?_
        rw [hq]
        refine lv_istore (lv' := [(13, .int (jnd a b x y i)), (12, .int (b i)), (11, .int (a i)), (10, .int (nI i)), (8, .long (pkS (jnd a b x y) i)), (0, .long (pk a)), (2, .long (pk b)), (4, .long (pk x)), (6, .long (pk y))]) hx hb dL_joined_76 hl (by decide) rfl (fun ls hl => ?_)
        refine lv_lload hx hb dL_joined_78 (lv_at hl 4 rfl) ?_
        refine lv_iload hx hb dL_joined_80 (lv_at hl 0 rfl) ?_
        refine lv_i2l (v := ((jnd a b x y i)).toInt64) hx hb dL_joined_82 rfl ?_
        refine lv_bipush (v := nI 6) hx hb dL_joined_83 (by decide) ?_
        refine lv_iload hx hb dL_joined_85 (lv_at hl 3 rfl) ?_
        refine n_imul hx hb dL_joined_87 ?_
        refine lv_lshl (v := (((jnd a b x y i)).toInt64) <<< ((nI (6 * i)).toInt64 &&& 63)) hx hb dL_joined_88 rfl ?_
        refine lv_lor hx hb dL_joined_89 ?_
        rw [show (pkS (jnd a b x y) i) ||| ((((jnd a b x y i)).toInt64) <<< ((nI (6 * i)).toInt64 &&& 63)) = pkS (jnd a b x y) (i + 1) from rfl]
        refine lv_lstore (lv' := [(8, .long (pkS (jnd a b x y) (i + 1))), (13, .int (jnd a b x y i)), (12, .int (b i)), (11, .int (a i)), (10, .int (nI i)), (0, .long (pk a)), (2, .long (pk b)), (4, .long (pk x)), (6, .long (pk y))]) hx hb dL_joined_90 hl (by decide) rfl (fun ls hl => ?_)
        refine n_iinc (j := i) (n := 1) (lv' := [(10, .int (nI (i + 1))), (8, .long (pkS (jnd a b x y) (i + 1))), (13, .int (jnd a b x y i)), (12, .int (b i)), (11, .int (a i)), (0, .long (pk a)), (2, .long (pk b)), (4, .long (pk x)), (6, .long (pk y))]) hx hb dL_joined_92 hl (k := 4) rfl (by decide) (by decide) rfl (fun ls hl => ?_)
        refine lv_goto (tgt := 6) hx hb dL_joined_95 (by decide) ?_
        exact ih6 (i + 1) (by omega) (by omega) H locs ls (h.eq (congrArg (lay tc ad gm dz) rfl)) (lv_sub hl [0, 1, 5, 6, 7, 8] rfl)
    · skip
      have hq : a i = jnd a b x y i := by unfold jnd; rw [if_pos c_33]
      refine lv_iload hx hb dL_joined_36 (lv_at hl 1 rfl) ?_
      refine lv_goto (tgt := 76) hx hb dL_joined_38 (by decide) ?_
      rw [hq]
      refine lv_istore (lv' := [(13, .int (jnd a b x y i)), (12, .int (b i)), (11, .int (a i)), (10, .int (nI i)), (8, .long (pkS (jnd a b x y) i)), (0, .long (pk a)), (2, .long (pk b)), (4, .long (pk x)), (6, .long (pk y))]) hx hb dL_joined_76 hl (by decide) rfl (fun ls hl => ?_)
      refine lv_lload hx hb dL_joined_78 (lv_at hl 4 rfl) ?_
      refine lv_iload hx hb dL_joined_80 (lv_at hl 0 rfl) ?_
      refine lv_i2l (v := ((jnd a b x y i)).toInt64) hx hb dL_joined_82 rfl ?_
      refine lv_bipush (v := nI 6) hx hb dL_joined_83 (by decide) ?_
      refine lv_iload hx hb dL_joined_85 (lv_at hl 3 rfl) ?_
      refine n_imul hx hb dL_joined_87 ?_
      refine lv_lshl (v := (((jnd a b x y i)).toInt64) <<< ((nI (6 * i)).toInt64 &&& 63)) hx hb dL_joined_88 rfl ?_
      refine lv_lor hx hb dL_joined_89 ?_
      rw [show (pkS (jnd a b x y) i) ||| ((((jnd a b x y i)).toInt64) <<< ((nI (6 * i)).toInt64 &&& 63)) = pkS (jnd a b x y) (i + 1) from rfl]
      refine lv_lstore (lv' := [(8, .long (pkS (jnd a b x y) (i + 1))), (13, .int (jnd a b x y i)), (12, .int (b i)), (11, .int (a i)), (10, .int (nI i)), (0, .long (pk a)), (2, .long (pk b)), (4, .long (pk x)), (6, .long (pk y))]) hx hb dL_joined_90 hl (by decide) rfl (fun ls hl => ?_)
      refine n_iinc (j := i) (n := 1) (lv' := [(10, .int (nI (i + 1))), (8, .long (pkS (jnd a b x y) (i + 1))), (13, .int (jnd a b x y i)), (12, .int (b i)), (11, .int (a i)), (0, .long (pk a)), (2, .long (pk b)), (4, .long (pk x)), (6, .long (pk y))]) hx hb dL_joined_92 hl (k := 4) rfl (by decide) (by decide) rfl (fun ls hl => ?_)
      refine lv_goto (tgt := 6) hx hb dL_joined_95 (by decide) ?_
      exact ih6 (i + 1) (by omega) (by omega) H locs ls (h.eq (congrArg (lay tc ad gm dz) rfl)) (lv_sub hl [0, 1, 5, 6, 7, 8] rfl)
