theorem vF_n {A T : Nat → Int32} {f k left : Nat} (hq : nz (A (f * 6 + k)) = false) (hk : k < 6) : vFrom A T f (6 - k) k left = vFrom A T f (6 - (k + 1)) (k + 1) left := by
  rw [show 6 - k = (6 - (k + 1)) + 1 by omega, vFrom, hq]
  simp
theorem vF_y1 {A T : Nat → Int32} {f k left : Nat} (hq : nz (A (f * 6 + k)) = true) (hk : k < 6) (hl : 0 < left) : vFrom A T f (6 - k) k left = vFrom A T f (6 - (k + 1)) (k + 1) (left - 1) := by
  rw [show 6 - k = (6 - (k + 1)) + 1 by omega, vFrom, hq, if_pos rfl, if_neg (by omega)]
theorem vF_y0 {A T : Nat → Int32} {f k left : Nat} (hq : nz (A (f * 6 + k)) = true) (hk : k < 6) (hl : left = 0) : vFrom A T f (6 - k) k left = T (f * 6 + k) := by
  rw [show 6 - k = (6 - (k + 1)) + 1 by omega, vFrom, hq, if_pos rfl, if_pos hl]

theorem ne4 {k b e d d2 : Nat} (h : d ≠ d2) : ((k, b, e, d) : KN) ≠ (k, b, e, d2) := by
  intro q
  simp only [Prod.mk.injEq] at q
  exact h q.2.2.2
theorem nek {k k2 b b2 e e2 d d2 : Nat} (h : k ≠ k2) : ((k, b, e, d) : KN) ≠ (k2, b2, e2, d2) := by
  intro q
  simp only [Prod.mk.injEq] at q
  exact h q.1

theorem m_X6_isDevice_in {l : Launch} {D : va_G} {tc : TC} {dz : Nat} {ad : KN → Nat} {Ks : List KN} {gm : GM} (I : Mem) (d : Nat) (hd : d < 6) : MI l yX6_isDevice cX6_isDevice 1 (some .boolean) 0 D tc dz ad Ks (lay tc ad gm dz I) [.int (nI d)] (bI true) (lay tc ad gm dz I) := by
  have h := m_X6_isDevice (l := l) (D := D) (tc := tc) (dz := dz) (ad := ad) (Ks := Ks) (gm := gm) I (nI d)
  rw [isDev_nI hd] at h
  exact h

theorem m_X6_isPerson_in {l : Launch} {D : va_G} {tc : TC} {dz : Nat} {ad : KN → Nat} {Ks : List KN} {gm : GM} (I : Mem) (d : Nat) (hd : d < 3) : MI l yX6_isPerson cX6_isPerson 1 (some .boolean) 0 D tc dz ad Ks (lay tc ad gm dz I) [.int (nI d)] (bI true) (lay tc ad gm dz I) := by
  have h := m_X6_isPerson (l := l) (D := D) (tc := tc) (dz := dz) (ad := ad) (Ks := Ks) (gm := gm) I (nI d)
  rw [isPer_nI hd] at h
  exact h

theorem m_X6_isField_in {l : Launch} {D : va_G} {tc : TC} {dz : Nat} {ad : KN → Nat} {Ks : List KN} {gm : GM} (I : Mem) (d : Nat) (hd : d < 4) : MI l yX6_isField cX6_isField 1 (some .boolean) 0 D tc dz ad Ks (lay tc ad gm dz I) [.int (nI d)] (bI true) (lay tc ad gm dz I) := by
  have h := m_X6_isField (l := l) (D := D) (tc := tc) (dz := dz) (ad := ad) (Ks := Ks) (gm := gm) I (nI d)
  rw [isFld_nI hd] at h
  exact h

set_option maxHeartbeats 4000000 in
set_option maxRecDepth 100000 in
theorem m_X4_isKnownOn {l : Launch} {D : va_G} {tc : TC} {dz : Nat} {ad : KN → Nat} {Ks : List KN} {gm : GM} (I : Mem) (b e j : Nat) (hL : LV gm Ks) (hb2 : b < 2) (he : e < 10) (hj : j < (gm b e).1) (d : Nat) (hd : d < 6) : MI l yX4_isKnownOn cX4_isKnownOn 2 (Option.some ClassFile.FieldType.boolean) 0 D tc dz ad Ks (lay tc ad gm dz I) [.ref (ad (16, b, e, j)), .int (nI d)] (bI (kno (I (19, b, e, j) d))) (lay tc ad gm dz I) := by
  intro sz
  refine x_ofW (by decide +kernel) (Nat.le_of_ble_eq_true rfl) (fun pp ee s mm bel meth cd ls X hr hin hz h hl => ?_)
  subst hz
  obtain ⟨hx, hb, hmaxL, hown, hts⟩ := id X.1
  have hl : lv_has ls 2 [(0, .ref (ad (16, b, e, j))), (1, .int (nI d))] := hl
  refine lv_aload_n hx hb dX4_isKnownOn_0 rfl (lv_at hl 0 rfl) ?_
  refine gf_Mark_knownSince X h (hL (16, b, e, j) ⟨by omega, by omega, by omega⟩) q504 dX4_isKnownOn_1 ?_
  refine lv_iload_n hx hb dX4_isKnownOn_4 rfl (lv_at hl 1 rfl) ?_
  refine y_ald X h (fun _ => rfl) (by decide) (hL (19, b, e, j) ⟨by omega, by omega, by omega⟩) (by omega) (v := I (19, b, e, j) d) rfl dX4_isKnownOn_5 ?_
  refine lv_iconst (v := (-1)) hx hb dX4_isKnownOn_6 (by decide) ?_
  refine lv_icmp_eq (tgt := 14) hx hb dX4_isKnownOn_7 (by decide) (fun c_7 => ?_) (fun c_7 => ?_)
  · skip
    refine lv_iconst (v := nI 0) hx hb dX4_isKnownOn_14 (by decide) ?_
    refine x_iret X h hr (by decide) ?_ (fun _ _ => rfl) dX4_isKnownOn_15
    · simp only [kno, ↓reduceIte, c_7]; rfl
  · skip
    refine lv_iconst (v := nI 1) hx hb dX4_isKnownOn_10 (by decide) ?_
    refine lv_goto (tgt := 15) hx hb dX4_isKnownOn_11 (by decide) ?_
    refine x_iret X h hr (by decide) ?_ (fun _ _ => rfl) dX4_isKnownOn_15
    · simp only [kno, ↓reduceIte, c_7]; rfl

set_option maxHeartbeats 4000000 in
set_option maxRecDepth 100000 in
theorem m_X4_set {l : Launch} {D : va_G} {tc : TC} {dz : Nat} {ad : KN → Nat} {Ks : List KN} {gm : GM} (I : Mem) (b e j : Nat) (hL : LV gm Ks) (hb2 : b < 2) (he : e < 10) (hj : j < (gm b e).1) (d : Nat) (hd : d < 6) (month : Int32) : MV l yX4_set cX4_set 5 2 D tc dz ad Ks (lay tc ad gm dz I) [.ref (ad (16, b, e, j)), .ref (ad (12, b, e, d)), .int (nI d), .int month] (lay tc ad gm dz (markM I b e j d month)) := by
  intro sz
  refine x_ofW (by decide +kernel) (Nat.le_of_ble_eq_true rfl) (fun pp ee s mm bel meth cd ls X hr hin hz h hl => ?_)
  subst hz
  obtain ⟨hx, hb, hmaxL, hown, hts⟩ := id X.1
  have hl : lv_has ls 5 [(0, .ref (ad (16, b, e, j))), (1, .ref (ad (12, b, e, d))), (2, .int (nI d)), (3, .int month)] := hl
  refine lv_aload_n hx hb dX4_set_0 rfl (lv_at hl 0 rfl) ?_
  refine gf_Mark_seen X h (hL (16, b, e, j) ⟨by omega, by omega, by omega⟩) q502 dX4_set_1 ?_
  refine x_doneV X h (x_runV X h (k := (17, b, e, j)) (m_X5_clear I (17, b, e, j) (18, b, e, j) (fun _ => rfl) (fun _ => rfl) (hL (17, b, e, j) ⟨by omega, by omega, by omega⟩) (hL (18, b, e, j) ⟨by omega, by omega, by omega⟩) _) F_X5_clear q573 q574 q575 (hL (17, b, e, j) ⟨by omega, by omega, by omega⟩) rfl rfl rfl (by decide) (by decide) ⟨Nat.le_refl _, Nat.le_refl _⟩ hl.1 (Nat.le_of_ble_eq_true rfl) dX4_set_4 rfl) (fun H locs h => ?_)
  refine lv_aload_n hx hb dX4_set_7 rfl (lv_at hl 0 rfl) ?_
  refine gf_Mark_seen X h (hL (16, b, e, j) ⟨by omega, by omega, by omega⟩) q502 dX4_set_8 ?_
  refine lv_aload_n hx hb dX4_set_11 rfl (lv_at hl 1 rfl) ?_
  refine x_doneV X h (x_runV X h (k := (17, b, e, j)) (m_X5_raiseTo (sset I (18, b, e, j) (fun _ => 0)) (17, b, e, j) (18, b, e, j) (fun _ => rfl) (fun _ => rfl) (hL (17, b, e, j) ⟨by omega, by omega, by omega⟩) (hL (18, b, e, j) ⟨by omega, by omega, by omega⟩) (12, b, e, d) (13, b, e, d) (fun _ => rfl) (fun _ => rfl) (hL (12, b, e, d) ⟨by omega, by omega, by omega⟩) (hL (13, b, e, d) ⟨by omega, by omega, by omega⟩) _) F_X5_raiseTo q577 q578 q579 (hL (17, b, e, j) ⟨by omega, by omega, by omega⟩) rfl rfl rfl (by decide) (by decide) ⟨Nat.le_refl _, Nat.le_refl _⟩ hl.1 (Nat.le_of_ble_eq_true rfl) dX4_set_12 rfl) (fun H locs h => ?_)
  have hm : (sset (sset I (18, b, e, j) (fun _ => 0)) (18, b, e, j) (gM ((sset I (18, b, e, j) (fun _ => 0)) (18, b, e, j)) ((sset I (18, b, e, j) (fun _ => 0)) (13, b, e, d)))) = (sset I (18, b, e, j) (fun c => imax 0 (I (13, b, e, d) c))) := by
    simp only [sset_sset, sset_eq, sset_ne _ _ ((nek (by decide)) : ((13, b, e, d) : KN) ≠ (18, b, e, j))]
    rfl
  have h := h.eq (congrArg (lay tc ad gm dz) hm)
  refine lv_iconst (v := nI 0) hx hb dX4_set_15 (by decide) ?_
  refine lv_istore (lv' := [(4, .int (nI 0)), (0, .ref (ad (16, b, e, j))), (1, .ref (ad (12, b, e, d))), (2, .int (nI d)), (3, .int month)]) hx hb dX4_set_16 hl (by decide) rfl (fun ls hl => ?_)
  refine y_loop (D := D) (A := wA ad Ks s.heap.size) (ad := ad) (Ks := Ks) (nL := 5) (fun i : Nat => lay tc ad gm dz (sset (sset I (18, b, e, j) (fun c => imax 0 (I (13, b, e, d) c))) (19, b, e, j) (pf i (fun _ => -1) ((sset I (18, b, e, j) (fun c => imax 0 (I (13, b, e, d) c))) (19, b, e, j))))) (fun i => [(4, .int (nI i)), (0, .ref (ad (16, b, e, j))), (2, .int (nI d)), (3, .int month)]) (fun _ => []) (fun i : Nat => i ≤ 6) (fun i => 6 - i) (fun i hi18 ih18 H locs ls h hl => ?_) 0 (Nat.zero_le _) (h.eq (congrArg (lay tc ad gm dz) (pf_at0 (sset I (18, b, e, j) (fun c => imax 0 (I (13, b, e, d) c))) (19, b, e, j) _))) (lv_sub hl [0, 1, 3, 4] rfl) rfl
  have h : Sx D (wA ad Ks s.heap.size) ad Ks (lay tc ad gm dz (sset (sset I (18, b, e, j) (fun c => imax 0 (I (13, b, e, d) c))) (19, b, e, j) (pf i (fun _ => -1) ((sset I (18, b, e, j) (fun c => imax 0 (I (13, b, e, d) c))) (19, b, e, j))))) s H locs := h
  have hl : lv_has ls 5 [(4, .int (nI i)), (0, .ref (ad (16, b, e, j))), (2, .int (nI d)), (3, .int month)] := hl
  refine lv_iload hx hb dX4_set_18 (lv_at hl 0 rfl) ?_
  refine lv_bipush (v := nI 6) hx hb dX4_set_20 (by decide) ?_
  refine n_icmp_ge (tgt := 39) hx hb (by omega) (by omega) dX4_set_22 (by decide) (fun c_22 => ?_) (fun c_22 => ?_)
  · skip
    obtain rfl : i = 6 := by omega
    have h := h.pfEnd (fun _ => rfl)
    refine lv_aload_n hx hb dX4_set_39 rfl (lv_at hl 1 rfl) ?_
    refine gf_Mark_knownSince X h (hL (16, b, e, j) ⟨by omega, by omega, by omega⟩) q504 dX4_set_40 ?_
    refine lv_iload_n hx hb dX4_set_43 rfl (lv_at hl 2 rfl) ?_
    refine lv_iload_n hx hb dX4_set_44 rfl (lv_at hl 3 rfl) ?_
    refine y_ast X h (fun _ => rfl) (by decide) (hL (19, b, e, j) ⟨by omega, by omega, by omega⟩) (by omega) dX4_set_45 (fun H locs h => ?_)
    refine x_vret X h hr (fun k _ => congrFun (congrArg (lay tc ad gm dz) ?_) k) dX4_set_46
    · simp only [markM, sset_sset, sset_eq]
  · skip
    refine lv_aload_n hx hb dX4_set_25 rfl (lv_at hl 1 rfl) ?_
    refine gf_Mark_knownSince X h (hL (16, b, e, j) ⟨by omega, by omega, by omega⟩) q504 dX4_set_26 ?_
    refine lv_iload hx hb dX4_set_29 (lv_at hl 0 rfl) ?_
    refine lv_iconst (v := (-1)) hx hb dX4_set_31 (by decide) ?_
    refine y_ast X h (fun _ => rfl) (by decide) (hL (19, b, e, j) ⟨by omega, by omega, by omega⟩) (by omega) dX4_set_32 (fun H locs h => ?_)
    refine n_iinc (j := i) (n := 1) (lv' := [(4, .int (nI (i + 1))), (0, .ref (ad (16, b, e, j))), (2, .int (nI d)), (3, .int month)]) hx hb dX4_set_33 hl (k := 0) rfl (by decide) (by decide) rfl (fun ls hl => ?_)
    refine lv_goto (tgt := 18) hx hb dX4_set_36 (by decide) ?_
    exact ih18 (i + 1) (by omega) (by omega) H locs ls (h.eq (congrArg (lay tc ad gm dz) (pf_step (sset I (18, b, e, j) (fun c => imax 0 (I (13, b, e, d) c))) (19, b, e, j) rfl))) (lv_sub hl [0, 1, 2, 3] rfl)

set_option maxHeartbeats 4000000 in
set_option maxRecDepth 100000 in
theorem m_X4_spread {l : Launch} {D : va_G} {tc : TC} {dz : Nat} {ad : KN → Nat} {Ks : List KN} {gm : GM} (I : Mem) (b e j : Nat) (hL : LV gm Ks) (hb2 : b < 2) (he : e < 10) (hj : j < (gm b e).1) (d d2 : Nat) (hd : d < 6) (hd2 : d2 < 6) (month : Int32) : MV l yX4_spread cX4_spread 4 1 D tc dz ad Ks (lay tc ad gm dz I) [.ref (ad (16, b, e, j)), .int (nI d), .int (nI d2), .int month] (lay tc ad gm dz (sset I (19, b, e, j) (sprd (I (19, b, e, j)) d d2 month))) := by
  intro sz
  refine x_ofW (by decide +kernel) (Nat.le_of_ble_eq_true rfl) (fun pp ee s mm bel meth cd ls X hr hin hz h hl => ?_)
  subst hz
  obtain ⟨hx, hb, hmaxL, hown, hts⟩ := id X.1
  have hl : lv_has ls 4 [(0, .ref (ad (16, b, e, j))), (1, .int (nI d)), (2, .int (nI d2)), (3, .int month)] := hl
  refine lv_aload_n hx hb dX4_spread_0 rfl (lv_at hl 0 rfl) ?_
  refine lv_iload_n hx hb dX4_spread_1 rfl (lv_at hl 1 rfl) ?_
  refine x_doneI X h (x_runV X h (k := (16, b, e, j)) (m_X4_isKnownOn I b e j hL (by omega) (by omega) (by omega) d (by omega) _) F_X4_isKnownOn q643 q308 q309 (hL (16, b, e, j) ⟨by omega, by omega, by omega⟩) rfl rfl rfl (by decide) (by decide) ⟨Nat.le_refl _, Nat.le_refl _⟩ hl.1 (Nat.le_of_ble_eq_true rfl) dX4_spread_2 rfl) (fun H locs h => ?_)
  refine b_if_eq (tgt := 26) hx hb dX4_spread_5 (by decide) (fun c_5 => ?_) (fun c_5 => ?_)
  · skip
    refine lv_aload_n hx hb dX4_spread_26 rfl (lv_at hl 0 rfl) ?_
    refine lv_iload_n hx hb dX4_spread_27 rfl (lv_at hl 2 rfl) ?_
    refine x_doneI X h (x_runV X h (k := (16, b, e, j)) (m_X4_isKnownOn I b e j hL (by omega) (by omega) (by omega) d2 (by omega) _) F_X4_isKnownOn q643 q308 q309 (hL (16, b, e, j) ⟨by omega, by omega, by omega⟩) rfl rfl rfl (by decide) (by decide) ⟨Nat.le_refl _, Nat.le_refl _⟩ hl.1 (Nat.le_of_ble_eq_true rfl) dX4_spread_28 rfl) (fun H locs h => ?_)
    refine b_if_eq (tgt := 49) hx hb dX4_spread_31 (by decide) (fun c_31 => ?_) (fun c_31 => ?_)
    · skip
      refine x_vret X h hr (fun k _ => congrFun (congrArg (lay tc ad gm dz) ?_) k) dX4_spread_49
      · simp only [sprd, sset_id, ↓reduceIte, c_5, c_31, Bool.false_eq_true]
    · skip
      refine lv_aload_n hx hb dX4_spread_34 rfl (lv_at hl 0 rfl) ?_
      refine lv_iload_n hx hb dX4_spread_35 rfl (lv_at hl 1 rfl) ?_
      refine x_doneI X h (x_runV X h (k := (16, b, e, j)) (m_X4_isKnownOn I b e j hL (by omega) (by omega) (by omega) d (by omega) _) F_X4_isKnownOn q643 q308 q309 (hL (16, b, e, j) ⟨by omega, by omega, by omega⟩) rfl rfl rfl (by decide) (by decide) ⟨Nat.le_refl _, Nat.le_refl _⟩ hl.1 (Nat.le_of_ble_eq_true rfl) dX4_spread_36 rfl) (fun H locs h => ?_)
      refine b_if_ne (tgt := 49) hx hb dX4_spread_39 (by decide) (fun c => by rw [c_5] at c; cases c) (fun _ => ?_)
      refine lv_aload_n hx hb dX4_spread_42 rfl (lv_at hl 0 rfl) ?_
      refine gf_Mark_knownSince X h (hL (16, b, e, j) ⟨by omega, by omega, by omega⟩) q504 dX4_spread_43 ?_
      refine lv_iload_n hx hb dX4_spread_46 rfl (lv_at hl 1 rfl) ?_
      refine lv_iload_n hx hb dX4_spread_47 rfl (lv_at hl 3 rfl) ?_
      refine y_ast X h (fun _ => rfl) (by decide) (hL (19, b, e, j) ⟨by omega, by omega, by omega⟩) (by omega) dX4_spread_48 (fun H locs h => ?_)
      refine x_vret X h hr (fun k _ => congrFun (congrArg (lay tc ad gm dz) ?_) k) dX4_spread_49
      · simp only [sprd, sset_id, ↓reduceIte, c_5, c_31, Bool.false_eq_true]
  · skip
    refine lv_aload_n hx hb dX4_spread_8 rfl (lv_at hl 0 rfl) ?_
    refine lv_iload_n hx hb dX4_spread_9 rfl (lv_at hl 2 rfl) ?_
    refine x_doneI X h (x_runV X h (k := (16, b, e, j)) (m_X4_isKnownOn I b e j hL (by omega) (by omega) (by omega) d2 (by omega) _) F_X4_isKnownOn q643 q308 q309 (hL (16, b, e, j) ⟨by omega, by omega, by omega⟩) rfl rfl rfl (by decide) (by decide) ⟨Nat.le_refl _, Nat.le_refl _⟩ hl.1 (Nat.le_of_ble_eq_true rfl) dX4_spread_10 rfl) (fun H locs h => ?_)
    refine b_if_ne (tgt := 26) hx hb dX4_spread_13 (by decide) (fun c_13 => ?_) (fun c_13 => ?_)
    · skip
      refine lv_aload_n hx hb dX4_spread_26 rfl (lv_at hl 0 rfl) ?_
      refine lv_iload_n hx hb dX4_spread_27 rfl (lv_at hl 2 rfl) ?_
      refine x_doneI X h (x_runV X h (k := (16, b, e, j)) (m_X4_isKnownOn I b e j hL (by omega) (by omega) (by omega) d2 (by omega) _) F_X4_isKnownOn q643 q308 q309 (hL (16, b, e, j) ⟨by omega, by omega, by omega⟩) rfl rfl rfl (by decide) (by decide) ⟨Nat.le_refl _, Nat.le_refl _⟩ hl.1 (Nat.le_of_ble_eq_true rfl) dX4_spread_28 rfl) (fun H locs h => ?_)
      refine b_if_eq (tgt := 49) hx hb dX4_spread_31 (by decide) (fun c => by rw [c_13] at c; cases c) (fun _ => ?_)
      refine lv_aload_n hx hb dX4_spread_34 rfl (lv_at hl 0 rfl) ?_
      refine lv_iload_n hx hb dX4_spread_35 rfl (lv_at hl 1 rfl) ?_
      refine x_doneI X h (x_runV X h (k := (16, b, e, j)) (m_X4_isKnownOn I b e j hL (by omega) (by omega) (by omega) d (by omega) _) F_X4_isKnownOn q643 q308 q309 (hL (16, b, e, j) ⟨by omega, by omega, by omega⟩) rfl rfl rfl (by decide) (by decide) ⟨Nat.le_refl _, Nat.le_refl _⟩ hl.1 (Nat.le_of_ble_eq_true rfl) dX4_spread_36 rfl) (fun H locs h => ?_)
      refine b_if_ne (tgt := 49) hx hb dX4_spread_39 (by decide) (fun _ => ?_) (fun c => by rw [c_5] at c; cases c)
      refine x_vret X h hr (fun k _ => congrFun (congrArg (lay tc ad gm dz) ?_) k) dX4_spread_49
      · simp only [sprd, sset_id, ↓reduceIte, c_5, c_13, Bool.false_eq_true]
    · skip
      refine lv_aload_n hx hb dX4_spread_16 rfl (lv_at hl 0 rfl) ?_
      refine gf_Mark_knownSince X h (hL (16, b, e, j) ⟨by omega, by omega, by omega⟩) q504 dX4_spread_17 ?_
      refine lv_iload_n hx hb dX4_spread_20 rfl (lv_at hl 2 rfl) ?_
      refine lv_iload_n hx hb dX4_spread_21 rfl (lv_at hl 3 rfl) ?_
      refine y_ast X h (fun _ => rfl) (by decide) (hL (19, b, e, j) ⟨by omega, by omega, by omega⟩) (by omega) dX4_spread_22 (fun H locs h => ?_)
      refine lv_goto (tgt := 49) hx hb dX4_spread_23 (by decide) ?_
      refine x_vret X h hr (fun k _ => congrFun (congrArg (lay tc ad gm dz) ?_) k) dX4_spread_49
      · simp only [sprd, sset_id, ↓reduceIte, c_5, c_13, Bool.false_eq_true]

set_option maxHeartbeats 4000000 in
set_option maxRecDepth 100000 in
theorem m_X1_countValues {l : Launch} {D : va_G} {tc : TC} {dz : Nat} {ad : KN → Nat} {Ks : List KN} {gm : GM} (I : Mem) (b e d : Nat) (hL : LV gm Ks) (hb2 : b < 2) (he : e < 10) (hd : d < 6) (f : Nat) (hf : f < 4) : MI l yX1_countValues cX1_countValues 4 (Option.some ClassFile.FieldType.int) 1 D tc dz ad Ks (lay tc ad gm dz I) [.ref (ad (9, b, e, d)), .int (nI f)] (nI (cvF (I (10, b, e, d)) f)) (lay tc ad gm dz I) := by
  intro sz
  refine x_ofW (by decide +kernel) (Nat.le_of_ble_eq_true rfl) (fun pp ee s mm bel meth cd ls X hr hin hz h hl => ?_)
  subst hz
  obtain ⟨hx, hb, hmaxL, hown, hts⟩ := id X.1
  have hl : lv_has ls 4 [(0, .ref (ad (9, b, e, d))), (1, .int (nI f))] := hl
  refine lv_iconst (v := nI 0) hx hb dX1_countValues_0 (by decide) ?_
  refine lv_istore_n (lv' := [(2, .int (nI 0)), (0, .ref (ad (9, b, e, d))), (1, .int (nI f))]) hx hb dX1_countValues_1 rfl hl (by decide) rfl (fun ls hl => ?_)
  refine lv_iconst (v := nI 0) hx hb dX1_countValues_2 (by decide) ?_
  refine lv_istore_n (lv' := [(3, .int (nI 0)), (2, .int (nI 0)), (0, .ref (ad (9, b, e, d))), (1, .int (nI f))]) hx hb dX1_countValues_3 rfl hl (by decide) rfl (fun ls hl => ?_)
  refine y_loop (D := D) (A := wA ad Ks s.heap.size) (ad := ad) (Ks := Ks) (nL := 4) (fun i : Nat => lay tc ad gm dz I) (fun i => [(3, .int (nI i)), (2, .int (nI (cntN (fun y => nz ((I (10, b, e, d)) (f * 6 + y))) i))), (1, .int (nI f)), (0, .ref (ad (9, b, e, d)))]) (fun _ => []) (fun i : Nat => i ≤ 6) (fun i => 6 - i) (fun i hi4 ih4 H locs ls h hl => ?_) 0 (Nat.zero_le _) (h.eq (congrArg (lay tc ad gm dz) rfl)) (lv_sub hl [0, 1, 3, 2] rfl) rfl
  have h : Sx D (wA ad Ks s.heap.size) ad Ks (lay tc ad gm dz I) s H locs := h
  have hl : lv_has ls 4 [(3, .int (nI i)), (2, .int (nI (cntN (fun y => nz ((I (10, b, e, d)) (f * 6 + y))) i))), (1, .int (nI f)), (0, .ref (ad (9, b, e, d)))] := hl
  refine lv_iload_n hx hb dX1_countValues_4 rfl (lv_at hl 0 rfl) ?_
  refine lv_bipush (v := nI 6) hx hb dX1_countValues_5 (by decide) ?_
  refine n_icmp_ge (tgt := 32) hx hb (by omega) (by omega) dX1_countValues_7 (by decide) (fun c_7 => ?_) (fun c_7 => ?_)
  · skip
    obtain rfl : i = 6 := by omega
    refine lv_iload_n hx hb dX1_countValues_32 rfl (lv_at hl 1 rfl) ?_
    exact x_iret X h hr rfl rfl (fun _ _ => rfl) dX1_countValues_33
  · skip
    refine lv_aload_n hx hb dX1_countValues_10 rfl (lv_at hl 3 rfl) ?_
    refine gf_Copy_acts X h (hL (9, b, e, d) ⟨by omega, by omega, by omega⟩) q103 dX1_countValues_11 ?_
    refine lv_iload_n hx hb dX1_countValues_14 rfl (lv_at hl 2 rfl) ?_
    refine lv_iload_n hx hb dX1_countValues_15 rfl (lv_at hl 0 rfl) ?_
    refine x_doneI X h (x_runSN X h (m_X6_cell I f i _) F_X6_cell t327 q328 rfl (by decide) (by decide) ⟨Nat.le_refl _, Nat.le_refl _⟩ hl.1 (Nat.le_of_ble_eq_true rfl) dX1_countValues_16 rfl) (fun H locs h => ?_)
    refine y_ald X h (fun _ => rfl) (by decide) (hL (10, b, e, d) ⟨by omega, by omega, by omega⟩) (by omega) (v := I (10, b, e, d) (f * 6 + i)) rfl dX1_countValues_19 ?_
    refine lv_if_eq (tgt := 26) hx hb dX1_countValues_20 (by decide) (fun c_20 => ?_) (fun c_20 => ?_)
    · skip
      have hq : nz ((I (10, b, e, d)) (f * 6 + i)) = false := by simp only [nz, c_20, ↓reduceIte]
      have hcn := cntN_n (p := fun y => nz ((I (10, b, e, d)) (f * 6 + y))) hq
      rw [← hcn] at hl
      refine n_iinc (j := i) (n := 1) (lv' := [(3, .int (nI (i + 1))), (2, .int (nI (cntN (fun y => nz ((I (10, b, e, d)) (f * 6 + y))) (i + 1)))), (1, .int (nI f)), (0, .ref (ad (9, b, e, d)))]) hx hb dX1_countValues_26 hl (k := 0) rfl (by decide) (by decide) rfl (fun ls hl => ?_)
      refine lv_goto (tgt := 4) hx hb dX1_countValues_29 (by decide) ?_
      exact ih4 (i + 1) (by omega) (by omega) H locs ls (h.eq (congrArg (lay tc ad gm dz) rfl)) (lv_sub hl [0, 1, 2, 3] rfl)
    · skip
      have hq : nz ((I (10, b, e, d)) (f * 6 + i)) = true := by simp only [nz, c_20, ↓reduceIte]
      have hcn := cntN_y (p := fun y => nz ((I (10, b, e, d)) (f * 6 + y))) hq
      refine lv_iinc (v := nI (cntN (fun y => nz ((I (10, b, e, d)) (f * 6 + y))) (i + 1))) (lv' := [(2, .int (nI (cntN (fun y => nz ((I (10, b, e, d)) (f * 6 + y))) (i + 1)))), (3, .int (nI i)), (1, .int (nI f)), (0, .ref (ad (9, b, e, d)))]) hx hb dX1_countValues_23 hl (k := 1) rfl (by rw [hcn]; exact nI_1 _) (by decide) rfl (fun ls hl => ?_)
      refine n_iinc (j := i) (n := 1) (lv' := [(3, .int (nI (i + 1))), (2, .int (nI (cntN (fun y => nz ((I (10, b, e, d)) (f * 6 + y))) (i + 1)))), (1, .int (nI f)), (0, .ref (ad (9, b, e, d)))]) hx hb dX1_countValues_26 hl (k := 1) rfl (by decide) (by decide) rfl (fun ls hl => ?_)
      refine lv_goto (tgt := 4) hx hb dX1_countValues_29 (by decide) ?_
      exact ih4 (i + 1) (by omega) (by omega) H locs ls (h.eq (congrArg (lay tc ad gm dz) rfl)) (lv_sub hl [0, 1, 2, 3] rfl)

set_option maxHeartbeats 4000000 in
set_option maxRecDepth 100000 in
theorem m_X1_countAllValues {l : Launch} {D : va_G} {tc : TC} {dz : Nat} {ad : KN → Nat} {Ks : List KN} {gm : GM} (I : Mem) (b e d : Nat) (hL : LV gm Ks) (hb2 : b < 2) (he : e < 10) (hd : d < 6) : MI l yX1_countAllValues cX1_countAllValues 3 (Option.some ClassFile.FieldType.int) 0 D tc dz ad Ks (lay tc ad gm dz I) [.ref (ad (9, b, e, d))] (nI (cvA (I (10, b, e, d)))) (lay tc ad gm dz I) := by
  intro sz
  refine x_ofW (by decide +kernel) (Nat.le_of_ble_eq_true rfl) (fun pp ee s mm bel meth cd ls X hr hin hz h hl => ?_)
  subst hz
  obtain ⟨hx, hb, hmaxL, hown, hts⟩ := id X.1
  have hl : lv_has ls 3 [(0, .ref (ad (9, b, e, d)))] := hl
  refine lv_iconst (v := nI 0) hx hb dX1_countAllValues_0 (by decide) ?_
  refine lv_istore_n (lv' := [(1, .int (nI 0)), (0, .ref (ad (9, b, e, d)))]) hx hb dX1_countAllValues_1 rfl hl (by decide) rfl (fun ls hl => ?_)
  refine lv_iconst (v := nI 0) hx hb dX1_countAllValues_2 (by decide) ?_
  refine lv_istore_n (lv' := [(2, .int (nI 0)), (1, .int (nI 0)), (0, .ref (ad (9, b, e, d)))]) hx hb dX1_countAllValues_3 rfl hl (by decide) rfl (fun ls hl => ?_)
  refine y_loop (D := D) (A := wA ad Ks s.heap.size) (ad := ad) (Ks := Ks) (nL := 3) (fun i : Nat => lay tc ad gm dz I) (fun i => [(2, .int (nI i)), (1, .int (nI (cntN (fun c => nz ((I (10, b, e, d)) c)) i))), (0, .ref (ad (9, b, e, d)))]) (fun _ => []) (fun i : Nat => i ≤ 24) (fun i => 24 - i) (fun i hi4 ih4 H locs ls h hl => ?_) 0 (Nat.zero_le _) (h.eq (congrArg (lay tc ad gm dz) rfl)) (lv_sub hl [0, 1, 2] rfl) rfl
  have h : Sx D (wA ad Ks s.heap.size) ad Ks (lay tc ad gm dz I) s H locs := h
  have hl : lv_has ls 3 [(2, .int (nI i)), (1, .int (nI (cntN (fun c => nz ((I (10, b, e, d)) c)) i))), (0, .ref (ad (9, b, e, d)))] := hl
  refine lv_iload_n hx hb dX1_countAllValues_4 rfl (lv_at hl 0 rfl) ?_
  refine lv_bipush (v := nI 24) hx hb dX1_countAllValues_5 (by decide) ?_
  refine n_icmp_ge (tgt := 28) hx hb (by omega) (by omega) dX1_countAllValues_7 (by decide) (fun c_7 => ?_) (fun c_7 => ?_)
  · skip
    obtain rfl : i = 24 := by omega
    refine lv_iload_n hx hb dX1_countAllValues_28 rfl (lv_at hl 1 rfl) ?_
    exact x_iret X h hr rfl rfl (fun _ _ => rfl) dX1_countAllValues_29
  · skip
    refine lv_aload_n hx hb dX1_countAllValues_10 rfl (lv_at hl 2 rfl) ?_
    refine gf_Copy_acts X h (hL (9, b, e, d) ⟨by omega, by omega, by omega⟩) q103 dX1_countAllValues_11 ?_
    refine lv_iload_n hx hb dX1_countAllValues_14 rfl (lv_at hl 0 rfl) ?_
    refine y_ald X h (fun _ => rfl) (by decide) (hL (10, b, e, d) ⟨by omega, by omega, by omega⟩) (by omega) (v := I (10, b, e, d) i) rfl dX1_countAllValues_15 ?_
    refine lv_if_eq (tgt := 22) hx hb dX1_countAllValues_16 (by decide) (fun c_16 => ?_) (fun c_16 => ?_)
    · skip
      have hq : nz ((I (10, b, e, d)) i) = false := by simp only [nz, c_16, ↓reduceIte]
      have hcn := cntN_n (p := fun c => nz ((I (10, b, e, d)) c)) hq
      rw [← hcn] at hl
      refine n_iinc (j := i) (n := 1) (lv' := [(2, .int (nI (i + 1))), (1, .int (nI (cntN (fun c => nz ((I (10, b, e, d)) c)) (i + 1)))), (0, .ref (ad (9, b, e, d)))]) hx hb dX1_countAllValues_22 hl (k := 0) rfl (by decide) (by decide) rfl (fun ls hl => ?_)
      refine lv_goto (tgt := 4) hx hb dX1_countAllValues_25 (by decide) ?_
      exact ih4 (i + 1) (by omega) (by omega) H locs ls (h.eq (congrArg (lay tc ad gm dz) rfl)) (lv_sub hl [0, 1, 2] rfl)
    · skip
      have hq : nz ((I (10, b, e, d)) i) = true := by simp only [nz, c_16, ↓reduceIte]
      have hcn := cntN_y (p := fun c => nz ((I (10, b, e, d)) c)) hq
      refine lv_iinc (v := nI (cntN (fun c => nz ((I (10, b, e, d)) c)) (i + 1))) (lv' := [(1, .int (nI (cntN (fun c => nz ((I (10, b, e, d)) c)) (i + 1)))), (2, .int (nI i)), (0, .ref (ad (9, b, e, d)))]) hx hb dX1_countAllValues_19 hl (k := 1) rfl (by rw [hcn]; exact nI_1 _) (by decide) rfl (fun ls hl => ?_)
      refine n_iinc (j := i) (n := 1) (lv' := [(2, .int (nI (i + 1))), (1, .int (nI (cntN (fun c => nz ((I (10, b, e, d)) c)) (i + 1)))), (0, .ref (ad (9, b, e, d)))]) hx hb dX1_countAllValues_22 hl (k := 1) rfl (by decide) (by decide) rfl (fun ls hl => ?_)
      refine lv_goto (tgt := 4) hx hb dX1_countAllValues_25 (by decide) ?_
      exact ih4 (i + 1) (by omega) (by omega) H locs ls (h.eq (congrArg (lay tc ad gm dz) rfl)) (lv_sub hl [0, 1, 2] rfl)

set_option maxHeartbeats 4000000 in
set_option maxRecDepth 100000 in
theorem m_X1_countClashes {l : Launch} {D : va_G} {tc : TC} {dz : Nat} {ad : KN → Nat} {Ks : List KN} {gm : GM} (I : Mem) (b e d : Nat) (hL : LV gm Ks) (hb2 : b < 2) (he : e < 10) (hd : d < 6) : MI l yX1_countClashes cX1_countClashes 3 (Option.some ClassFile.FieldType.int) 2 D tc dz ad Ks (lay tc ad gm dz I) [.ref (ad (9, b, e, d))] (nI (ccl (I (10, b, e, d)))) (lay tc ad gm dz I) := by
  intro sz
  refine x_ofW (by decide +kernel) (Nat.le_of_ble_eq_true rfl) (fun pp ee s mm bel meth cd ls X hr hin hz h hl => ?_)
  subst hz
  obtain ⟨hx, hb, hmaxL, hown, hts⟩ := id X.1
  have hl : lv_has ls 3 [(0, .ref (ad (9, b, e, d)))] := hl
  refine lv_iconst (v := nI 0) hx hb dX1_countClashes_0 (by decide) ?_
  refine lv_istore_n (lv' := [(1, .int (nI 0)), (0, .ref (ad (9, b, e, d)))]) hx hb dX1_countClashes_1 rfl hl (by decide) rfl (fun ls hl => ?_)
  refine lv_iconst (v := nI 0) hx hb dX1_countClashes_2 (by decide) ?_
  refine lv_istore_n (lv' := [(2, .int (nI 0)), (1, .int (nI 0)), (0, .ref (ad (9, b, e, d)))]) hx hb dX1_countClashes_3 rfl hl (by decide) rfl (fun ls hl => ?_)
  refine y_loop (D := D) (A := wA ad Ks s.heap.size) (ad := ad) (Ks := Ks) (nL := 3) (fun i : Nat => lay tc ad gm dz I) (fun i => [(2, .int (nI i)), (1, .int (nI (cntN (fun f => decide (1 < cvF (I (10, b, e, d)) f)) i))), (0, .ref (ad (9, b, e, d)))]) (fun _ => []) (fun i : Nat => i ≤ 4) (fun i => 4 - i) (fun i hi4 ih4 H locs ls h hl => ?_) 0 (Nat.zero_le _) (h.eq (congrArg (lay tc ad gm dz) rfl)) (lv_sub hl [0, 1, 2] rfl) rfl
  have h : Sx D (wA ad Ks s.heap.size) ad Ks (lay tc ad gm dz I) s H locs := h
  have hl : lv_has ls 3 [(2, .int (nI i)), (1, .int (nI (cntN (fun f => decide (1 < cvF (I (10, b, e, d)) f)) i))), (0, .ref (ad (9, b, e, d)))] := hl
  refine lv_iload_n hx hb dX1_countClashes_4 rfl (lv_at hl 0 rfl) ?_
  refine lv_iconst (v := nI 4) hx hb dX1_countClashes_5 (by decide) ?_
  refine n_icmp_ge (tgt := 27) hx hb (by omega) (by omega) dX1_countClashes_6 (by decide) (fun c_6 => ?_) (fun c_6 => ?_)
  · skip
    obtain rfl : i = 4 := by omega
    refine lv_iload_n hx hb dX1_countClashes_27 rfl (lv_at hl 1 rfl) ?_
    exact x_iret X h hr rfl rfl (fun _ _ => rfl) dX1_countClashes_28
  · skip
    refine lv_aload_n hx hb dX1_countClashes_9 rfl (lv_at hl 2 rfl) ?_
    refine lv_iload_n hx hb dX1_countClashes_10 rfl (lv_at hl 0 rfl) ?_
    refine x_doneI X h (x_runV X h (k := (9, b, e, d)) (m_X1_countValues I b e d hL (by omega) (by omega) (by omega) i (by omega) _) F_X1_countValues q323 q324 q325 (hL (9, b, e, d) ⟨by omega, by omega, by omega⟩) rfl rfl rfl (by decide) (by decide) ⟨Nat.le_refl _, Nat.le_refl _⟩ hl.1 (Nat.le_of_ble_eq_true rfl) dX1_countClashes_11 rfl) (fun H locs h => ?_)
    refine lv_iconst (v := nI 1) hx hb dX1_countClashes_14 (by decide) ?_
    have hcv := cvF_le (I (10, b, e, d)) i
    refine n_icmp_le (tgt := 21) hx hb (by omega) (by omega) dX1_countClashes_15 (by decide) (fun c_15 => ?_) (fun c_15 => ?_)
    · skip
      have hq : decide (1 < cvF (I (10, b, e, d)) i) = false := by exact decide_eq_false (by omega)
      have hcn := cntN_n (p := fun f => decide (1 < cvF (I (10, b, e, d)) f)) hq
      rw [← hcn] at hl
      refine n_iinc (j := i) (n := 1) (lv' := [(2, .int (nI (i + 1))), (1, .int (nI (cntN (fun f => decide (1 < cvF (I (10, b, e, d)) f)) (i + 1)))), (0, .ref (ad (9, b, e, d)))]) hx hb dX1_countClashes_21 hl (k := 0) rfl (by decide) (by decide) rfl (fun ls hl => ?_)
      refine lv_goto (tgt := 4) hx hb dX1_countClashes_24 (by decide) ?_
      exact ih4 (i + 1) (by omega) (by omega) H locs ls (h.eq (congrArg (lay tc ad gm dz) rfl)) (lv_sub hl [0, 1, 2] rfl)
    · skip
      have hq : decide (1 < cvF (I (10, b, e, d)) i) = true := by exact decide_eq_true (by omega)
      have hcn := cntN_y (p := fun f => decide (1 < cvF (I (10, b, e, d)) f)) hq
      refine lv_iinc (v := nI (cntN (fun f => decide (1 < cvF (I (10, b, e, d)) f)) (i + 1))) (lv' := [(1, .int (nI (cntN (fun f => decide (1 < cvF (I (10, b, e, d)) f)) (i + 1)))), (2, .int (nI i)), (0, .ref (ad (9, b, e, d)))]) hx hb dX1_countClashes_18 hl (k := 1) rfl (by rw [hcn]; exact nI_1 _) (by decide) rfl (fun ls hl => ?_)
      refine n_iinc (j := i) (n := 1) (lv' := [(2, .int (nI (i + 1))), (1, .int (nI (cntN (fun f => decide (1 < cvF (I (10, b, e, d)) f)) (i + 1)))), (0, .ref (ad (9, b, e, d)))]) hx hb dX1_countClashes_21 hl (k := 1) rfl (by decide) (by decide) rfl (fun ls hl => ?_)
      refine lv_goto (tgt := 4) hx hb dX1_countClashes_24 (by decide) ?_
      exact ih4 (i + 1) (by omega) (by omega) H locs ls (h.eq (congrArg (lay tc ad gm dz) rfl)) (lv_sub hl [0, 1, 2] rfl)

set_option maxHeartbeats 4000000 in
set_option maxRecDepth 100000 in
theorem m_X1_valueAt {l : Launch} {D : va_G} {tc : TC} {dz : Nat} {ad : KN → Nat} {Ks : List KN} {gm : GM} (I : Mem) (b e d : Nat) (hL : LV gm Ks) (hb2 : b < 2) (he : e < 10) (hd : d < 6) (f j : Nat) (hf : f < 4) (hj : j < 2 ^ 30) : MI l yX1_valueAt cX1_valueAt 6 (Option.some ClassFile.FieldType.int) 1 D tc dz ad Ks (lay tc ad gm dz I) [.ref (ad (9, b, e, d)), .int (nI f), .int (nI j)] (vFrom (I (10, b, e, d)) (I (11, b, e, d)) f 6 0 j) (lay tc ad gm dz I) := by
  intro sz
  refine x_ofW (by decide +kernel) (Nat.le_of_ble_eq_true rfl) (fun pp ee s mm bel meth cd ls X hr hin hz h hl => ?_)
  subst hz
  obtain ⟨hx, hb, hmaxL, hown, hts⟩ := id X.1
  have hl : lv_has ls 6 [(0, .ref (ad (9, b, e, d))), (1, .int (nI f)), (2, .int (nI j))] := hl
  refine lv_iconst (v := nI 0) hx hb dX1_valueAt_0 (by decide) ?_
  refine lv_istore_n (lv' := [(3, .int (nI 0)), (0, .ref (ad (9, b, e, d))), (1, .int (nI f)), (2, .int (nI j))]) hx hb dX1_valueAt_1 rfl hl (by decide) rfl (fun ls hl => ?_)
  refine lv_iconst (v := nI 0) hx hb dX1_valueAt_2 (by decide) ?_
  refine lv_istore (lv' := [(4, .int (nI 0)), (3, .int (nI 0)), (0, .ref (ad (9, b, e, d))), (1, .int (nI f)), (2, .int (nI j))]) hx hb dX1_valueAt_3 hl (by decide) rfl (fun ls hl => ?_)
  refine y_loop (D := D) (A := wA ad Ks s.heap.size) (ad := ad) (Ks := Ks) (nL := 6) (fun x : Nat × Nat => lay tc ad gm dz I) (fun x => [(4, .int (nI x.1)), (3, .int (nI x.2)), (0, .ref (ad (9, b, e, d))), (1, .int (nI f)), (2, .int (nI j))]) (fun _ => []) (fun x : Nat × Nat => x.1 ≤ 6 ∧ x.2 ≤ j ∧ vFrom (I (10, b, e, d)) (I (11, b, e, d)) f 6 0 j = vFrom (I (10, b, e, d)) (I (11, b, e, d)) f (6 - x.1) x.1 (j - x.2)) (fun x => 6 - x.1) (fun x hi5 ih5 H locs ls h hl => ?_) (0, 0) ⟨Nat.zero_le _, Nat.zero_le _, rfl⟩ (h.eq (congrArg (lay tc ad gm dz) rfl)) (lv_sub hl [0, 1, 2, 3, 4] rfl) rfl
  have h : Sx D (wA ad Ks s.heap.size) ad Ks (lay tc ad gm dz I) s H locs := h
  have hl : lv_has ls 6 [(4, .int (nI x.1)), (3, .int (nI x.2)), (0, .ref (ad (9, b, e, d))), (1, .int (nI f)), (2, .int (nI j))] := hl
  obtain ⟨h6, hxj, hv⟩ := hi5
  refine lv_iload hx hb dX1_valueAt_5 (lv_at hl 0 rfl) ?_
  refine lv_bipush (v := nI 6) hx hb dX1_valueAt_7 (by decide) ?_
  refine n_icmp_ge (tgt := 52) hx hb (by omega) (by omega) dX1_valueAt_9 (by decide) (fun c_9 => ?_) (fun c_9 => ?_)
  · skip
    refine lv_iconst (v := (-1)) hx hb dX1_valueAt_52 (by decide) ?_
    refine x_iret X h hr rfl ?_ (fun _ _ => rfl) dX1_valueAt_53
    · rw [hv, show 6 - x.1 = 0 by omega]; rfl
  · skip
    refine lv_iload_n hx hb dX1_valueAt_12 rfl (lv_at hl 3 rfl) ?_
    refine lv_iload hx hb dX1_valueAt_13 (lv_at hl 0 rfl) ?_
    refine x_doneI X h (x_runSN X h (m_X6_cell I f x.1 _) F_X6_cell t327 q328 rfl (by decide) (by decide) ⟨Nat.le_refl _, Nat.le_refl _⟩ hl.1 (Nat.le_of_ble_eq_true rfl) dX1_valueAt_15 rfl) (fun H locs h => ?_)
    refine lv_istore (lv' := [(5, .int (nI (f * 6 + x.1))), (4, .int (nI x.1)), (3, .int (nI x.2)), (0, .ref (ad (9, b, e, d))), (1, .int (nI f)), (2, .int (nI j))]) hx hb dX1_valueAt_18 hl (by decide) rfl (fun ls hl => ?_)
    refine lv_aload_n hx hb dX1_valueAt_20 rfl (lv_at hl 3 rfl) ?_
    refine gf_Copy_acts X h (hL (9, b, e, d) ⟨by omega, by omega, by omega⟩) q103 dX1_valueAt_21 ?_
    refine lv_iload hx hb dX1_valueAt_24 (lv_at hl 0 rfl) ?_
    refine y_ald X h (fun _ => rfl) (by decide) (hL (10, b, e, d) ⟨by omega, by omega, by omega⟩) (by omega) (v := I (10, b, e, d) (f * 6 + x.1)) rfl dX1_valueAt_26 ?_
    refine lv_if_eq (tgt := 46) hx hb dX1_valueAt_27 (by decide) (fun c_27 => ?_) (fun c_27 => ?_)
    · skip
      have hq : nz ((I (10, b, e, d)) (f * 6 + x.1)) = false := by simp only [nz, c_27, ↓reduceIte]
      have hv := hv.trans (vF_n hq (by omega))
      refine n_iinc (j := x.1) (n := 1) (lv' := [(4, .int (nI (x.1 + 1))), (5, .int (nI (f * 6 + x.1))), (3, .int (nI x.2)), (0, .ref (ad (9, b, e, d))), (1, .int (nI f)), (2, .int (nI j))]) hx hb dX1_valueAt_46 hl (k := 1) rfl (by decide) (by decide) rfl (fun ls hl => ?_)
      refine lv_goto (tgt := 5) hx hb dX1_valueAt_49 (by decide) ?_
      exact ih5 ((x.1 + 1, x.2)) ⟨by omega, by omega, hv⟩ (by omega) H locs ls (h.eq (congrArg (lay tc ad gm dz) rfl)) (lv_sub hl [0, 2, 3, 4, 5] rfl)
    · skip
      have hq : nz ((I (10, b, e, d)) (f * 6 + x.1)) = true := by simp only [nz, c_27, ↓reduceIte]
      refine lv_iload_n hx hb dX1_valueAt_30 rfl (lv_at hl 2 rfl) ?_
      refine lv_iload_n hx hb dX1_valueAt_31 rfl (lv_at hl 5 rfl) ?_
      refine n_icmp_ne (tgt := 43) hx hb (by omega) (by omega) dX1_valueAt_32 (by decide) (fun c_32 => ?_) (fun c_32 => ?_)
      · skip
        have hv := hv.trans (vF_y1 hq (by omega) (by omega))
        refine n_iinc (j := x.2) (n := 1) (lv' := [(3, .int (nI (x.2 + 1))), (5, .int (nI (f * 6 + x.1))), (4, .int (nI x.1)), (0, .ref (ad (9, b, e, d))), (1, .int (nI f)), (2, .int (nI j))]) hx hb dX1_valueAt_43 hl (k := 2) rfl (by decide) (by decide) rfl (fun ls hl => ?_)
        refine n_iinc (j := x.1) (n := 1) (lv' := [(4, .int (nI (x.1 + 1))), (3, .int (nI (x.2 + 1))), (5, .int (nI (f * 6 + x.1))), (0, .ref (ad (9, b, e, d))), (1, .int (nI f)), (2, .int (nI j))]) hx hb dX1_valueAt_46 hl (k := 2) rfl (by decide) (by decide) rfl (fun ls hl => ?_)
        refine lv_goto (tgt := 5) hx hb dX1_valueAt_49 (by decide) ?_
        exact ih5 ((x.1 + 1, x.2 + 1)) ⟨by omega, by omega, by rw [hv, Nat.sub_sub]⟩ (by omega) H locs ls (h.eq (congrArg (lay tc ad gm dz) rfl)) (lv_sub hl [0, 1, 3, 4, 5] rfl)
      · skip
        have hv := hv.trans (vF_y0 hq (by omega) (by omega))
        refine lv_aload_n hx hb dX1_valueAt_35 rfl (lv_at hl 3 rfl) ?_
        refine gf_Copy_told X h (hL (9, b, e, d) ⟨by omega, by omega, by omega⟩) q106 dX1_valueAt_36 ?_
        refine lv_iload hx hb dX1_valueAt_39 (lv_at hl 0 rfl) ?_
        refine y_ald X h (fun _ => rfl) (by decide) (hL (11, b, e, d) ⟨by omega, by omega, by omega⟩) (by omega) (v := I (11, b, e, d) (f * 6 + x.1)) rfl dX1_valueAt_41 ?_
        refine x_iret X h hr rfl ?_ (fun _ _ => rfl) dX1_valueAt_42
        · exact hv.symm

set_option maxHeartbeats 4000000 in
set_option maxRecDepth 100000 in
theorem m_X1_dropValues {l : Launch} {D : va_G} {tc : TC} {dz : Nat} {ad : KN → Nat} {Ks : List KN} {gm : GM} (I : Mem) (b e d : Nat) (hL : LV gm Ks) (hb2 : b < 2) (he : e < 10) (hd : d < 6) (f : Nat) (hf : f < 4) : MV l yX1_dropValues cX1_dropValues 3 1 D tc dz ad Ks (lay tc ad gm dz I) [.ref (ad (9, b, e, d)), .int (nI f)] (lay tc ad gm dz (dropM f I b e d)) := by
  intro sz
  refine x_ofW (by decide +kernel) (Nat.le_of_ble_eq_true rfl) (fun pp ee s mm bel meth cd ls X hr hin hz h hl => ?_)
  subst hz
  obtain ⟨hx, hb, hmaxL, hown, hts⟩ := id X.1
  have hl : lv_has ls 3 [(0, .ref (ad (9, b, e, d))), (1, .int (nI f))] := hl
  refine lv_iconst (v := nI 0) hx hb dX1_dropValues_0 (by decide) ?_
  refine lv_istore_n (lv' := [(2, .int (nI 0)), (0, .ref (ad (9, b, e, d))), (1, .int (nI f))]) hx hb dX1_dropValues_1 rfl hl (by decide) rfl (fun ls hl => ?_)
  refine y_loop (D := D) (A := wA ad Ks s.heap.size) (ad := ad) (Ks := Ks) (nL := 3) (fun i : Nat => lay tc ad gm dz (sset (sset I (10, b, e, d) (rf (f * 6) (f * 6 + i) (fun _ => 0) (I (10, b, e, d)))) (11, b, e, d) (rf (f * 6) (f * 6 + i) (fun _ => 0) (I (11, b, e, d))))) (fun i => [(2, .int (nI i)), (1, .int (nI f)), (0, .ref (ad (9, b, e, d)))]) (fun _ => []) (fun i : Nat => i ≤ 6) (fun i => 6 - i) (fun i hi2 ih2 H locs ls h hl => ?_) 0 (Nat.zero_le _) (h.eq (congrArg (lay tc ad gm dz) (by simp only [Nat.add_zero, rf_0, sset_id]))) (lv_sub hl [0, 2, 1] rfl) rfl
  have h : Sx D (wA ad Ks s.heap.size) ad Ks (lay tc ad gm dz (sset (sset I (10, b, e, d) (rf (f * 6) (f * 6 + i) (fun _ => 0) (I (10, b, e, d)))) (11, b, e, d) (rf (f * 6) (f * 6 + i) (fun _ => 0) (I (11, b, e, d))))) s H locs := h
  have hl : lv_has ls 3 [(2, .int (nI i)), (1, .int (nI f)), (0, .ref (ad (9, b, e, d)))] := hl
  refine lv_iload_n hx hb dX1_dropValues_2 rfl (lv_at hl 0 rfl) ?_
  refine lv_bipush (v := nI 6) hx hb dX1_dropValues_3 (by decide) ?_
  refine n_icmp_ge (tgt := 36) hx hb (by omega) (by omega) dX1_dropValues_5 (by decide) (fun c_5 => ?_) (fun c_5 => ?_)
  · skip
    obtain rfl : i = 6 := by omega
    exact x_vret X h hr (fun _ _ => rfl) dX1_dropValues_36
  · skip
    refine lv_aload_n hx hb dX1_dropValues_8 rfl (lv_at hl 2 rfl) ?_
    refine gf_Copy_acts X h (hL (9, b, e, d) ⟨by omega, by omega, by omega⟩) q103 dX1_dropValues_9 ?_
    refine lv_iload_n hx hb dX1_dropValues_12 rfl (lv_at hl 1 rfl) ?_
    refine lv_iload_n hx hb dX1_dropValues_13 rfl (lv_at hl 0 rfl) ?_
    refine x_doneI X h (x_runSN X h (m_X6_cell (sset (sset I (10, b, e, d) (rf (f * 6) (f * 6 + i) (fun _ => 0) (I (10, b, e, d)))) (11, b, e, d) (rf (f * 6) (f * 6 + i) (fun _ => 0) (I (11, b, e, d)))) f i _) F_X6_cell t327 q328 rfl (by decide) (by decide) ⟨Nat.le_refl _, Nat.le_refl _⟩ hl.1 (Nat.le_of_ble_eq_true rfl) dX1_dropValues_14 rfl) (fun H locs h => ?_)
    refine lv_iconst (v := nI 0) hx hb dX1_dropValues_17 (by decide) ?_
    refine y_ast X h (fun _ => rfl) (by decide) (hL (10, b, e, d) ⟨by omega, by omega, by omega⟩) (by omega) dX1_dropValues_18 (fun H locs h => ?_)
    refine lv_aload_n hx hb dX1_dropValues_19 rfl (lv_at hl 2 rfl) ?_
    refine gf_Copy_told X h (hL (9, b, e, d) ⟨by omega, by omega, by omega⟩) q106 dX1_dropValues_20 ?_
    refine lv_iload_n hx hb dX1_dropValues_23 rfl (lv_at hl 1 rfl) ?_
    refine lv_iload_n hx hb dX1_dropValues_24 rfl (lv_at hl 0 rfl) ?_
    refine x_doneI X h (x_runSN X h (m_X6_cell (sset (sset (sset I (10, b, e, d) (rf (f * 6) (f * 6 + i) (fun _ => 0) (I (10, b, e, d)))) (11, b, e, d) (rf (f * 6) (f * 6 + i) (fun _ => 0) (I (11, b, e, d)))) (10, b, e, d) (upd ((sset (sset I (10, b, e, d) (rf (f * 6) (f * 6 + i) (fun _ => 0) (I (10, b, e, d)))) (11, b, e, d) (rf (f * 6) (f * 6 + i) (fun _ => 0) (I (11, b, e, d)))) (10, b, e, d)) (f * 6 + i) (nI 0))) f i _) F_X6_cell t327 q328 rfl (by decide) (by decide) ⟨Nat.le_refl _, Nat.le_refl _⟩ hl.1 (Nat.le_of_ble_eq_true rfl) dX1_dropValues_25 rfl) (fun H locs h => ?_)
    refine lv_iconst (v := nI 0) hx hb dX1_dropValues_28 (by decide) ?_
    refine y_ast X h (fun _ => rfl) (by decide) (hL (11, b, e, d) ⟨by omega, by omega, by omega⟩) (by omega) dX1_dropValues_29 (fun H locs h => ?_)
    refine n_iinc (j := i) (n := 1) (lv' := [(2, .int (nI (i + 1))), (1, .int (nI f)), (0, .ref (ad (9, b, e, d)))]) hx hb dX1_dropValues_30 hl (k := 0) rfl (by decide) (by decide) rfl (fun ls hl => ?_)
    refine lv_goto (tgt := 2) hx hb dX1_dropValues_33 (by decide) ?_
    have hm : (sset (sset (sset (sset I (10, b, e, d) (rf (f * 6) (f * 6 + i) (fun _ => 0) (I (10, b, e, d)))) (11, b, e, d) (rf (f * 6) (f * 6 + i) (fun _ => 0) (I (11, b, e, d)))) (10, b, e, d) (upd ((sset (sset I (10, b, e, d) (rf (f * 6) (f * 6 + i) (fun _ => 0) (I (10, b, e, d)))) (11, b, e, d) (rf (f * 6) (f * 6 + i) (fun _ => 0) (I (11, b, e, d)))) (10, b, e, d)) (f * 6 + i) (nI 0))) (11, b, e, d) (upd ((sset (sset (sset I (10, b, e, d) (rf (f * 6) (f * 6 + i) (fun _ => 0) (I (10, b, e, d)))) (11, b, e, d) (rf (f * 6) (f * 6 + i) (fun _ => 0) (I (11, b, e, d)))) (10, b, e, d) (upd ((sset (sset I (10, b, e, d) (rf (f * 6) (f * 6 + i) (fun _ => 0) (I (10, b, e, d)))) (11, b, e, d) (rf (f * 6) (f * 6 + i) (fun _ => 0) (I (11, b, e, d)))) (10, b, e, d)) (f * 6 + i) (nI 0))) (11, b, e, d)) (f * 6 + i) (nI 0))) = (sset (sset I (10, b, e, d) (rf (f * 6) (f * 6 + (i + 1)) (fun _ => 0) (I (10, b, e, d)))) (11, b, e, d) (rf (f * 6) (f * 6 + (i + 1)) (fun _ => 0) (I (11, b, e, d)))) := by
      funext nn
      by_cases e0 : nn = (10, b, e, d)
      · rw [e0]
        simp only [sset_eq, sset_ne _ _ ((nek (by decide)) : (10, b, e, d) ≠ (11, b, e, d))]
        exact rf_s _ _ _ _ rfl
      · skip
        by_cases e1 : nn = (11, b, e, d)
        · rw [e1]
          simp only [sset_eq, sset_ne _ _ ((nek (by decide)) : (11, b, e, d) ≠ (10, b, e, d))]
          exact rf_s _ _ _ _ rfl
        · skip
          simp only [sset_ne _ _ e0, sset_ne _ _ e1]
    exact ih2 (i + 1) (by omega) (by omega) H locs ls (h.eq (congrArg (lay tc ad gm dz) hm)) (lv_sub hl [0, 1, 2] rfl)

theorem pf_s0 {i : Nat} (g f : Nat → Int32) (hv : g i = f i) : pf i g f = pf (i + 1) g f := by
  have := pf_s i g f
  have e : upd (pf i g f) i (g i) = pf i g f := by
    have e2 : pf i g f i = g i := by simp [pf, hv]
    rw [← e2]
    exact upd_same (α := Int32) _ _
  rw [← this, e]
theorem pf_s1 {i : Nat} {v : Int32} (g f : Nat → Int32) (hv : g i = v) : upd (pf i g f) i v = pf (i + 1) g f := by rw [← hv]; exact pf_s i g f

set_option maxHeartbeats 4000000 in
set_option maxRecDepth 100000 in
theorem m_X1_keepFields {l : Launch} {D : va_G} {tc : TC} {dz : Nat} {ad : KN → Nat} {Ks : List KN} {gm : GM} (I : Mem) (b e d : Nat) (hL : LV gm Ks) (hb2 : b < 2) (he : e < 10) (hd : d < 6) (F : Int32) : MV l yX1_keepFields cX1_keepFields 3 1 D tc dz ad Ks (lay tc ad gm dz I) [.ref (ad (9, b, e, d)), .int F] (lay tc ad gm dz (keepM F I b e d)) := by
  intro sz
  refine x_ofW (by decide +kernel) (Nat.le_of_ble_eq_true rfl) (fun pp ee s mm bel meth cd ls X hr hin hz h hl => ?_)
  subst hz
  obtain ⟨hx, hb, hmaxL, hown, hts⟩ := id X.1
  have hl : lv_has ls 3 [(0, .ref (ad (9, b, e, d))), (1, .int F)] := hl
  refine lv_iconst (v := nI 0) hx hb dX1_keepFields_0 (by decide) ?_
  refine lv_istore_n (lv' := [(2, .int (nI 0)), (0, .ref (ad (9, b, e, d))), (1, .int F)]) hx hb dX1_keepFields_1 rfl hl (by decide) rfl (fun ls hl => ?_)
  refine y_loop (D := D) (A := wA ad Ks s.heap.size) (ad := ad) (Ks := Ks) (nL := 3) (fun i : Nat => lay tc ad gm dz (sset (sset (sset I (10, b, e, d) (pf i (keepR F (I (10, b, e, d))) (I (10, b, e, d)))) (11, b, e, d) (pf i (keepR F (I (11, b, e, d))) (I (11, b, e, d)))) (13, b, e, d) (pf i (keepR F (I (13, b, e, d))) (I (13, b, e, d))))) (fun i => [(2, .int (nI i)), (1, .int F), (0, .ref (ad (9, b, e, d)))]) (fun _ => []) (fun i : Nat => i ≤ 24) (fun i => 24 - i) (fun i hi2 ih2 H locs ls h hl => ?_) 0 (Nat.zero_le _) (h.eq (congrArg (lay tc ad gm dz) (by simp only [pf_0, sset_id]))) (lv_sub hl [0, 2, 1] rfl) rfl
  have h : Sx D (wA ad Ks s.heap.size) ad Ks (lay tc ad gm dz (sset (sset (sset I (10, b, e, d) (pf i (keepR F (I (10, b, e, d))) (I (10, b, e, d)))) (11, b, e, d) (pf i (keepR F (I (11, b, e, d))) (I (11, b, e, d)))) (13, b, e, d) (pf i (keepR F (I (13, b, e, d))) (I (13, b, e, d))))) s H locs := h
  have hl : lv_has ls 3 [(2, .int (nI i)), (1, .int F), (0, .ref (ad (9, b, e, d)))] := hl
  refine lv_iload_n hx hb dX1_keepFields_2 rfl (lv_at hl 0 rfl) ?_
  refine lv_bipush (v := nI 24) hx hb dX1_keepFields_3 (by decide) ?_
  refine n_icmp_ge (tgt := 49) hx hb (by omega) (by omega) dX1_keepFields_5 (by decide) (fun c_5 => ?_) (fun c_5 => ?_)
  · skip
    obtain rfl : i = 24 := by omega
    have h := h.pfEnd (fun _ => rfl)
    rw [sset_comm _ (nek (by decide))] at h
    have h := h.pfEnd (fun _ => rfl)
    rw [sset_comm (sset I (10, b, e, d) _) (nek (by decide)), sset_comm I (nek (by decide)), sset_comm (sset I (11, b, e, d) _) (nek (by decide))] at h
    have h := h.pfEnd (fun _ => rfl)
    refine x_vret X h hr (fun k _ => congrFun (congrArg (lay tc ad gm dz) ?_) k) dX1_keepFields_49
    · rw [sset_comm (sset I (11, b, e, d) _) (nek (by decide)), sset_comm I (nek (by decide))]; rfl
  · skip
    refine lv_iload_n hx hb dX1_keepFields_8 rfl (lv_at hl 1 rfl) ?_
    refine lv_iload_n hx hb dX1_keepFields_9 rfl (lv_at hl 0 rfl) ?_
    refine lv_bipush (v := nI 6) hx hb dX1_keepFields_10 (by decide) ?_
    refine n_idiv hx hb (by omega) (by omega) (by omega) dX1_keepFields_12 ?_
    refine x_doneI X h (x_runSN X h (m_X6_contains (sset (sset (sset I (10, b, e, d) (pf i (keepR F (I (10, b, e, d))) (I (10, b, e, d)))) (11, b, e, d) (pf i (keepR F (I (11, b, e, d))) (I (11, b, e, d)))) (13, b, e, d) (pf i (keepR F (I (13, b, e, d))) (I (13, b, e, d)))) F (i / 6) _) F_X6_contains t602 q366 rfl (by decide) (by decide) ⟨Nat.le_refl _, Nat.le_refl _⟩ hl.1 (Nat.le_of_ble_eq_true rfl) dX1_keepFields_13 rfl) (fun H locs h => ?_)
    refine b_if_ne (tgt := 43) hx hb dX1_keepFields_16 (by decide) (fun c_16 => ?_) (fun c_16 => ?_)
    · skip
      refine n_iinc (j := i) (n := 1) (lv' := [(2, .int (nI (i + 1))), (1, .int F), (0, .ref (ad (9, b, e, d)))]) hx hb dX1_keepFields_43 hl (k := 0) rfl (by decide) (by decide) rfl (fun ls hl => ?_)
      refine lv_goto (tgt := 2) hx hb dX1_keepFields_46 (by decide) ?_
      have hm : (sset (sset (sset I (10, b, e, d) (pf i (keepR F (I (10, b, e, d))) (I (10, b, e, d)))) (11, b, e, d) (pf i (keepR F (I (11, b, e, d))) (I (11, b, e, d)))) (13, b, e, d) (pf i (keepR F (I (13, b, e, d))) (I (13, b, e, d)))) = (sset (sset (sset I (10, b, e, d) (pf (i + 1) (keepR F (I (10, b, e, d))) (I (10, b, e, d)))) (11, b, e, d) (pf (i + 1) (keepR F (I (11, b, e, d))) (I (11, b, e, d)))) (13, b, e, d) (pf (i + 1) (keepR F (I (13, b, e, d))) (I (13, b, e, d)))) := by
        funext nn
        by_cases e0 : nn = (10, b, e, d)
        · rw [e0]
          simp only [sset_eq, sset_ne _ _ ((nek (by decide)) : (10, b, e, d) ≠ (11, b, e, d)), sset_ne _ _ ((nek (by decide)) : (10, b, e, d) ≠ (13, b, e, d))]
          exact pf_s0 _ _ (by simp only [keepR, c_16, ↓reduceIte])
        · skip
          by_cases e1 : nn = (11, b, e, d)
          · rw [e1]
            simp only [sset_eq, sset_ne _ _ ((nek (by decide)) : (11, b, e, d) ≠ (10, b, e, d)), sset_ne _ _ ((nek (by decide)) : (11, b, e, d) ≠ (13, b, e, d))]
            exact pf_s0 _ _ (by simp only [keepR, c_16, ↓reduceIte])
          · skip
            by_cases e2 : nn = (13, b, e, d)
            · rw [e2]
              simp only [sset_eq, sset_ne _ _ ((nek (by decide)) : (13, b, e, d) ≠ (10, b, e, d)), sset_ne _ _ ((nek (by decide)) : (13, b, e, d) ≠ (11, b, e, d))]
              exact pf_s0 _ _ (by simp only [keepR, c_16, ↓reduceIte])
            · skip
              simp only [sset_ne _ _ e0, sset_ne _ _ e1, sset_ne _ _ e2]
      exact ih2 (i + 1) (by omega) (by omega) H locs ls (h.eq (congrArg (lay tc ad gm dz) hm)) (lv_sub hl [0, 1, 2] rfl)
    · skip
      refine lv_aload_n hx hb dX1_keepFields_19 rfl (lv_at hl 2 rfl) ?_
      refine gf_Copy_acts X h (hL (9, b, e, d) ⟨by omega, by omega, by omega⟩) q103 dX1_keepFields_20 ?_
      refine lv_iload_n hx hb dX1_keepFields_23 rfl (lv_at hl 0 rfl) ?_
      refine lv_iconst (v := nI 0) hx hb dX1_keepFields_24 (by decide) ?_
      refine y_ast X h (fun _ => rfl) (by decide) (hL (10, b, e, d) ⟨by omega, by omega, by omega⟩) (by omega) dX1_keepFields_25 (fun H locs h => ?_)
      refine lv_aload_n hx hb dX1_keepFields_26 rfl (lv_at hl 2 rfl) ?_
      refine gf_Copy_told X h (hL (9, b, e, d) ⟨by omega, by omega, by omega⟩) q106 dX1_keepFields_27 ?_
      refine lv_iload_n hx hb dX1_keepFields_30 rfl (lv_at hl 0 rfl) ?_
      refine lv_iconst (v := nI 0) hx hb dX1_keepFields_31 (by decide) ?_
      refine y_ast X h (fun _ => rfl) (by decide) (hL (11, b, e, d) ⟨by omega, by omega, by omega⟩) (by omega) dX1_keepFields_32 (fun H locs h => ?_)
      refine lv_aload_n hx hb dX1_keepFields_33 rfl (lv_at hl 2 rfl) ?_
      refine gf_Copy_seen X h (hL (9, b, e, d) ⟨by omega, by omega, by omega⟩) q108 dX1_keepFields_34 ?_
      refine gf_Numbers_numbers X h (fun _ => rfl) (hL (12, b, e, d) ⟨by omega, by omega, by omega⟩) q92 dX1_keepFields_37 ?_
      refine lv_iload_n hx hb dX1_keepFields_40 rfl (lv_at hl 0 rfl) ?_
      refine lv_iconst (v := nI 0) hx hb dX1_keepFields_41 (by decide) ?_
      refine y_ast X h (fun _ => rfl) (by decide) (hL (13, b, e, d) ⟨by omega, by omega, by omega⟩) (by omega) dX1_keepFields_42 (fun H locs h => ?_)
      refine n_iinc (j := i) (n := 1) (lv' := [(2, .int (nI (i + 1))), (1, .int F), (0, .ref (ad (9, b, e, d)))]) hx hb dX1_keepFields_43 hl (k := 0) rfl (by decide) (by decide) rfl (fun ls hl => ?_)
      refine lv_goto (tgt := 2) hx hb dX1_keepFields_46 (by decide) ?_
      have hm : (sset (sset (sset (sset (sset (sset I (10, b, e, d) (pf i (keepR F (I (10, b, e, d))) (I (10, b, e, d)))) (11, b, e, d) (pf i (keepR F (I (11, b, e, d))) (I (11, b, e, d)))) (13, b, e, d) (pf i (keepR F (I (13, b, e, d))) (I (13, b, e, d)))) (10, b, e, d) (upd ((sset (sset (sset I (10, b, e, d) (pf i (keepR F (I (10, b, e, d))) (I (10, b, e, d)))) (11, b, e, d) (pf i (keepR F (I (11, b, e, d))) (I (11, b, e, d)))) (13, b, e, d) (pf i (keepR F (I (13, b, e, d))) (I (13, b, e, d)))) (10, b, e, d)) i (nI 0))) (11, b, e, d) (upd ((sset (sset (sset (sset I (10, b, e, d) (pf i (keepR F (I (10, b, e, d))) (I (10, b, e, d)))) (11, b, e, d) (pf i (keepR F (I (11, b, e, d))) (I (11, b, e, d)))) (13, b, e, d) (pf i (keepR F (I (13, b, e, d))) (I (13, b, e, d)))) (10, b, e, d) (upd ((sset (sset (sset I (10, b, e, d) (pf i (keepR F (I (10, b, e, d))) (I (10, b, e, d)))) (11, b, e, d) (pf i (keepR F (I (11, b, e, d))) (I (11, b, e, d)))) (13, b, e, d) (pf i (keepR F (I (13, b, e, d))) (I (13, b, e, d)))) (10, b, e, d)) i (nI 0))) (11, b, e, d)) i (nI 0))) (13, b, e, d) (upd ((sset (sset (sset (sset (sset I (10, b, e, d) (pf i (keepR F (I (10, b, e, d))) (I (10, b, e, d)))) (11, b, e, d) (pf i (keepR F (I (11, b, e, d))) (I (11, b, e, d)))) (13, b, e, d) (pf i (keepR F (I (13, b, e, d))) (I (13, b, e, d)))) (10, b, e, d) (upd ((sset (sset (sset I (10, b, e, d) (pf i (keepR F (I (10, b, e, d))) (I (10, b, e, d)))) (11, b, e, d) (pf i (keepR F (I (11, b, e, d))) (I (11, b, e, d)))) (13, b, e, d) (pf i (keepR F (I (13, b, e, d))) (I (13, b, e, d)))) (10, b, e, d)) i (nI 0))) (11, b, e, d) (upd ((sset (sset (sset (sset I (10, b, e, d) (pf i (keepR F (I (10, b, e, d))) (I (10, b, e, d)))) (11, b, e, d) (pf i (keepR F (I (11, b, e, d))) (I (11, b, e, d)))) (13, b, e, d) (pf i (keepR F (I (13, b, e, d))) (I (13, b, e, d)))) (10, b, e, d) (upd ((sset (sset (sset I (10, b, e, d) (pf i (keepR F (I (10, b, e, d))) (I (10, b, e, d)))) (11, b, e, d) (pf i (keepR F (I (11, b, e, d))) (I (11, b, e, d)))) (13, b, e, d) (pf i (keepR F (I (13, b, e, d))) (I (13, b, e, d)))) (10, b, e, d)) i (nI 0))) (11, b, e, d)) i (nI 0))) (13, b, e, d)) i (nI 0))) = (sset (sset (sset I (10, b, e, d) (pf (i + 1) (keepR F (I (10, b, e, d))) (I (10, b, e, d)))) (11, b, e, d) (pf (i + 1) (keepR F (I (11, b, e, d))) (I (11, b, e, d)))) (13, b, e, d) (pf (i + 1) (keepR F (I (13, b, e, d))) (I (13, b, e, d)))) := by
        funext nn
        by_cases e0 : nn = (10, b, e, d)
        · rw [e0]
          simp only [sset_eq, sset_ne _ _ ((nek (by decide)) : (10, b, e, d) ≠ (11, b, e, d)), sset_ne _ _ ((nek (by decide)) : (10, b, e, d) ≠ (13, b, e, d))]
          exact pf_s1 _ _ (by simp only [keepR, c_16, ↓reduceIte, Bool.false_eq_true]; rfl)
        · skip
          by_cases e1 : nn = (11, b, e, d)
          · rw [e1]
            simp only [sset_eq, sset_ne _ _ ((nek (by decide)) : (11, b, e, d) ≠ (10, b, e, d)), sset_ne _ _ ((nek (by decide)) : (11, b, e, d) ≠ (13, b, e, d))]
            exact pf_s1 _ _ (by simp only [keepR, c_16, ↓reduceIte, Bool.false_eq_true]; rfl)
          · skip
            by_cases e2 : nn = (13, b, e, d)
            · rw [e2]
              simp only [sset_eq, sset_ne _ _ ((nek (by decide)) : (13, b, e, d) ≠ (10, b, e, d)), sset_ne _ _ ((nek (by decide)) : (13, b, e, d) ≠ (11, b, e, d))]
              exact pf_s1 _ _ (by simp only [keepR, c_16, ↓reduceIte, Bool.false_eq_true]; rfl)
            · skip
              simp only [sset_ne _ _ e0, sset_ne _ _ e1, sset_ne _ _ e2]
      exact ih2 (i + 1) (by omega) (by omega) H locs ls (h.eq (congrArg (lay tc ad gm dz) hm)) (lv_sub hl [0, 1, 2] rfl)

set_option maxHeartbeats 4000000 in
set_option maxRecDepth 100000 in
theorem m_X1_hasSameValues {l : Launch} {D : va_G} {tc : TC} {dz : Nat} {ad : KN → Nat} {Ks : List KN} {gm : GM} (I : Mem) (b e d : Nat) (hL : LV gm Ks) (hb2 : b < 2) (he : e < 10) (hd : d < 6) (d2 : Nat) (hd2 : d2 < 6) (f : Nat) (hf : f < 4) : MI l yX1_hasSameValues cX1_hasSameValues 4 (Option.some ClassFile.FieldType.boolean) 1 D tc dz ad Ks (lay tc ad gm dz I) [.ref (ad (9, b, e, d)), .ref (ad (9, b, e, d2)), .int (nI f)] (bI (sameV (I (10, b, e, d)) (I (10, b, e, d2)) f)) (lay tc ad gm dz I) := by
  intro sz
  refine x_ofW (by decide +kernel) (Nat.le_of_ble_eq_true rfl) (fun pp ee s mm bel meth cd ls X hr hin hz h hl => ?_)
  subst hz
  obtain ⟨hx, hb, hmaxL, hown, hts⟩ := id X.1
  have hl : lv_has ls 4 [(0, .ref (ad (9, b, e, d))), (1, .ref (ad (9, b, e, d2))), (2, .int (nI f))] := hl
  refine lv_iconst (v := nI 0) hx hb dX1_hasSameValues_0 (by decide) ?_
  refine lv_istore_n (lv' := [(3, .int (nI 0)), (0, .ref (ad (9, b, e, d))), (1, .ref (ad (9, b, e, d2))), (2, .int (nI f))]) hx hb dX1_hasSameValues_1 rfl hl (by decide) rfl (fun ls hl => ?_)
  refine y_loop (D := D) (A := wA ad Ks s.heap.size) (ad := ad) (Ks := Ks) (nL := 4) (fun i : Nat => lay tc ad gm dz I) (fun i => [(3, .int (nI i)), (2, .int (nI f)), (0, .ref (ad (9, b, e, d))), (1, .ref (ad (9, b, e, d2)))]) (fun _ => []) (fun i : Nat => i ≤ 6 ∧ (∀ j, j < i → (I (10, b, e, d)) (f * 6 + j) = (I (10, b, e, d2)) (f * 6 + j))) (fun i => 6 - i) (fun i hi2 ih2 H locs ls h hl => ?_) 0 ⟨Nat.zero_le _, fun j hj => absurd hj (Nat.not_lt_zero j)⟩ (h.eq (congrArg (lay tc ad gm dz) rfl)) (lv_sub hl [0, 3, 1, 2] rfl) rfl
  have h : Sx D (wA ad Ks s.heap.size) ad Ks (lay tc ad gm dz I) s H locs := h
  have hl : lv_has ls 4 [(3, .int (nI i)), (2, .int (nI f)), (0, .ref (ad (9, b, e, d))), (1, .ref (ad (9, b, e, d2)))] := hl
  obtain ⟨hi2, hj2⟩ := hi2
  refine lv_iload_n hx hb dX1_hasSameValues_2 rfl (lv_at hl 0 rfl) ?_
  refine lv_bipush (v := nI 6) hx hb dX1_hasSameValues_3 (by decide) ?_
  refine n_icmp_ge (tgt := 39) hx hb (by omega) (by omega) dX1_hasSameValues_5 (by decide) (fun c_5 => ?_) (fun c_5 => ?_)
  · skip
    refine lv_iconst (v := nI 1) hx hb dX1_hasSameValues_39 (by decide) ?_
    refine x_iret X h hr (by decide) ?_ (fun _ _ => rfl) dX1_hasSameValues_40
    · rw [show sameV (I (10, b, e, d)) (I (10, b, e, d2)) f = true from allB_t (fun j hj => decide_eq_true (hj2 j (by omega)))]; rfl
  · skip
    refine lv_aload_n hx hb dX1_hasSameValues_8 rfl (lv_at hl 2 rfl) ?_
    refine gf_Copy_acts X h (hL (9, b, e, d) ⟨by omega, by omega, by omega⟩) q103 dX1_hasSameValues_9 ?_
    refine lv_iload_n hx hb dX1_hasSameValues_12 rfl (lv_at hl 1 rfl) ?_
    refine lv_iload_n hx hb dX1_hasSameValues_13 rfl (lv_at hl 0 rfl) ?_
    refine x_doneI X h (x_runSN X h (m_X6_cell I f i _) F_X6_cell t327 q328 rfl (by decide) (by decide) ⟨Nat.le_refl _, Nat.le_refl _⟩ hl.1 (Nat.le_of_ble_eq_true rfl) dX1_hasSameValues_14 rfl) (fun H locs h => ?_)
    refine y_ald X h (fun _ => rfl) (by decide) (hL (10, b, e, d) ⟨by omega, by omega, by omega⟩) (by omega) (v := I (10, b, e, d) (f * 6 + i)) rfl dX1_hasSameValues_17 ?_
    refine lv_aload_n hx hb dX1_hasSameValues_18 rfl (lv_at hl 3 rfl) ?_
    refine gf_Copy_acts X h (hL (9, b, e, d2) ⟨by omega, by omega, by omega⟩) q103 dX1_hasSameValues_19 ?_
    refine lv_iload_n hx hb dX1_hasSameValues_22 rfl (lv_at hl 1 rfl) ?_
    refine lv_iload_n hx hb dX1_hasSameValues_23 rfl (lv_at hl 0 rfl) ?_
    refine x_doneI X h (x_runSN X h (m_X6_cell I f i _) F_X6_cell t327 q328 rfl (by decide) (by decide) ⟨Nat.le_refl _, Nat.le_refl _⟩ hl.1 (Nat.le_of_ble_eq_true rfl) dX1_hasSameValues_24 rfl) (fun H locs h => ?_)
    refine y_ald X h (fun _ => rfl) (by decide) (hL (10, b, e, d2) ⟨by omega, by omega, by omega⟩) (by omega) (v := I (10, b, e, d2) (f * 6 + i)) rfl dX1_hasSameValues_27 ?_
    refine lv_icmp_eq (tgt := 33) hx hb dX1_hasSameValues_28 (by decide) (fun c_28 => ?_) (fun c_28 => ?_)
    · skip
      refine n_iinc (j := i) (n := 1) (lv' := [(3, .int (nI (i + 1))), (2, .int (nI f)), (0, .ref (ad (9, b, e, d))), (1, .ref (ad (9, b, e, d2)))]) hx hb dX1_hasSameValues_33 hl (k := 0) rfl (by decide) (by decide) rfl (fun ls hl => ?_)
      refine lv_goto (tgt := 2) hx hb dX1_hasSameValues_36 (by decide) ?_
      exact ih2 (i + 1) ⟨by omega, lt_s hj2 c_28⟩ (by omega) H locs ls (h.eq (congrArg (lay tc ad gm dz) rfl)) (lv_sub hl [0, 1, 2, 3] rfl)
    · skip
      refine lv_iconst (v := nI 0) hx hb dX1_hasSameValues_31 (by decide) ?_
      refine x_iret X h hr (by decide) ?_ (fun _ _ => rfl) dX1_hasSameValues_32
      · rw [show sameV (I (10, b, e, d)) (I (10, b, e, d2)) f = false from allB_f c_5 (decide_eq_false c_28)]; rfl
