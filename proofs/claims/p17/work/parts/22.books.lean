set_option maxHeartbeats 4000000 in
set_option maxRecDepth 100000 in
theorem m_X0_find_in {l : Launch} {D : va_G} {tc : TC} {dz : Nat} {ad : KN → Nat} {Ks : List KN} {gm : GM} (I : Mem) (b : Nat) (hL : LV gm Ks) (hG : GMok gm) (hb2 : b < 2) (n : Nat) (mcs : Nat → Nat) (hB : BK gm I b n mcs) (e : Nat) (he : e < n) : MR l yX0_find cX0_find 2 (Option.some (ClassFile.FieldType.object "BraidBook$Entry")) 0 D tc dz ad Ks (lay tc ad gm dz I) [.ref (ad (1, b, 0, 0)), .int (nI e)] (some (ad (4, b, e, 0))) (lay tc ad gm dz I) := by
  intro sz
  obtain ⟨hn, hn10, hmk⟩ := id hB
  refine x_ofW (by decide +kernel) (Nat.le_of_ble_eq_true rfl) (fun pp ee s mm bel meth cd ls X hr hin hz h hl => ?_)
  subst hz
  obtain ⟨hx, hb, hmaxL, hown, hts⟩ := id X.1
  have hl : lv_has ls 2 [(0, .ref (ad (1, b, 0, 0))), (1, .int (nI e))] := hl
  refine lv_iload_n hx hb dX0_find_0 rfl (lv_at hl 1 rfl) ?_
  refine lv_if_lt (tgt := 18) hx hb dX0_find_1 (by decide) (fun c_1 => ?_) (fun c_1 => ?_)
  · skip
    exact absurd c_1 (nI_pos (by omega))
  · skip
    refine lv_iload_n hx hb dX0_find_4 rfl (lv_at hl 1 rfl) ?_
    refine lv_aload_n hx hb dX0_find_5 rfl (lv_at hl 0 rfl) ?_
    refine gf_Books_entryCount X h (hL (1, b, 0, 0) ⟨by omega, rfl, rfl⟩) q150 (v := nI n) hn dX0_find_6 ?_
    refine n_icmp_ge (tgt := 18) hx hb (by omega) (by omega) dX0_find_9 (by decide) (fun c_9 => ?_) (fun c_9 => ?_)
    · skip
      exact absurd c_9 (by omega)
    · skip
      refine lv_iload_n hx hb dX0_find_12 rfl (lv_at hl 1 rfl) ?_
      refine lv_bipush (v := nI 10) hx hb dX0_find_13 (by decide) ?_
      refine n_icmp_lt (tgt := 20) hx hb (by omega) (by omega) dX0_find_15 (by decide) (fun c_15 => ?_) (fun c_15 => ?_)
      · skip
        refine lv_aload_n hx hb dX0_find_20 rfl (lv_at hl 0 rfl) ?_
        refine gf_Books_entries X h (hL (1, b, 0, 0) ⟨by omega, rfl, rfl⟩) q153 dX0_find_21 ?_
        refine lv_iload_n hx hb dX0_find_24 rfl (lv_at hl 1 rfl) ?_
        refine ra_entries X h (hL (3, b, 0, 0) ⟨by omega, rfl, rfl⟩) (j := e) (by omega) dX0_find_25 ?_
        exact x_aret X h hr (Or.inl ⟨_, rfl⟩) rfl (fun _ _ => rfl) dX0_find_26
      · skip
        exact absurd c_15 (by omega)

set_option maxHeartbeats 4000000 in
set_option maxRecDepth 100000 in
theorem m_X0_find_out {l : Launch} {D : va_G} {tc : TC} {dz : Nat} {ad : KN → Nat} {Ks : List KN} {gm : GM} (I : Mem) (b : Nat) (hL : LV gm Ks) (hG : GMok gm) (hb2 : b < 2) (n : Nat) (mcs : Nat → Nat) (hB : BK gm I b n mcs) (x : Int32) (hx0 : x < 0 ∨ nI n ≤ x) : MR l yX0_find cX0_find 2 (Option.some (ClassFile.FieldType.object "BraidBook$Entry")) 0 D tc dz ad Ks (lay tc ad gm dz I) [.ref (ad (1, b, 0, 0)), .int x] none (lay tc ad gm dz I) := by
  intro sz
  obtain ⟨hn, hn10, hmk⟩ := id hB
  refine x_ofW (by decide +kernel) (Nat.le_of_ble_eq_true rfl) (fun pp ee s mm bel meth cd ls X hr hin hz h hl => ?_)
  subst hz
  obtain ⟨hx, hb, hmaxL, hown, hts⟩ := id X.1
  have hl : lv_has ls 2 [(0, .ref (ad (1, b, 0, 0))), (1, .int x)] := hl
  refine lv_iload_n hx hb dX0_find_0 rfl (lv_at hl 1 rfl) ?_
  refine lv_if_lt (tgt := 18) hx hb dX0_find_1 (by decide) (fun c_1 => ?_) (fun c_1 => ?_)
  · skip
    refine lv_null hx hb dX0_find_18 ?_
    exact x_aret X h hr (Or.inl ⟨_, rfl⟩) rfl (fun _ _ => rfl) dX0_find_19
  · skip
    refine lv_iload_n hx hb dX0_find_4 rfl (lv_at hl 1 rfl) ?_
    refine lv_aload_n hx hb dX0_find_5 rfl (lv_at hl 0 rfl) ?_
    refine gf_Books_entryCount X h (hL (1, b, 0, 0) ⟨by omega, rfl, rfl⟩) q150 (v := nI n) hn dX0_find_6 ?_
    refine lv_icmp_ge (tgt := 18) hx hb dX0_find_9 (by decide) (fun c_9 => ?_) (fun c_9 => ?_)
    · skip
      refine lv_null hx hb dX0_find_18 ?_
      exact x_aret X h hr (Or.inl ⟨_, rfl⟩) rfl (fun _ _ => rfl) dX0_find_19
    · skip
      exact absurd hx0 (fun q => q.elim c_1 c_9)

set_option maxHeartbeats 4000000 in
set_option maxRecDepth 100000 in
theorem m_X0_nextAct {l : Launch} {D : va_G} {tc : TC} {dz : Nat} {ad : KN → Nat} {Ks : List KN} {gm : GM} (I : Mem) (b : Nat) (hL : LV gm Ks) (hb2 : b < 2) (d : Nat) (hd : d < 6) : MI l yX0_nextAct cX0_nextAct 2 (Option.some ClassFile.FieldType.int) 0 D tc dz ad Ks (lay tc ad gm dz I) [.ref (ad (1, b, 0, 0)), .int (nI d)] (I (2, b, 0, 0) d + 1) (lay tc ad gm dz (nxtM I b d)) := by
  intro sz
  refine x_ofW (by decide +kernel) (Nat.le_of_ble_eq_true rfl) (fun pp ee s mm bel meth cd ls X hr hin hz h hl => ?_)
  subst hz
  obtain ⟨hx, hb, hmaxL, hown, hts⟩ := id X.1
  have hl : lv_has ls 2 [(0, .ref (ad (1, b, 0, 0))), (1, .int (nI d))] := hl
  refine lv_aload_n hx hb dX0_nextAct_0 rfl (lv_at hl 0 rfl) ?_
  refine gf_Books_actCounts X h (hL (1, b, 0, 0) ⟨by omega, rfl, rfl⟩) q152 dX0_nextAct_1 ?_
  refine lv_iload_n hx hb dX0_nextAct_4 rfl (lv_at hl 1 rfl) ?_
  refine lv_dup2_11 hx hb dX0_nextAct_5 rfl rfl ?_
  refine y_ald X h (fun _ => rfl) (by decide) (hL (2, b, 0, 0) ⟨by omega, rfl, rfl⟩) (by omega) (v := I (2, b, 0, 0) d) rfl dX0_nextAct_6 ?_
  refine lv_iconst (v := nI 1) hx hb dX0_nextAct_7 (by decide) ?_
  refine lv_iadd hx hb dX0_nextAct_8 ?_
  refine y_ast X h (fun _ => rfl) (by decide) (hL (2, b, 0, 0) ⟨by omega, rfl, rfl⟩) (by omega) dX0_nextAct_9 (fun H locs h => ?_)
  refine lv_aload_n hx hb dX0_nextAct_10 rfl (lv_at hl 0 rfl) ?_
  refine gf_Books_actCounts X h (hL (1, b, 0, 0) ⟨by omega, rfl, rfl⟩) q152 dX0_nextAct_11 ?_
  refine lv_iload_n hx hb dX0_nextAct_14 rfl (lv_at hl 1 rfl) ?_
  refine y_ald X h (fun _ => rfl) (by decide) (hL (2, b, 0, 0) ⟨by omega, rfl, rfl⟩) (by omega) (v := I (2, b, 0, 0) d + 1) (by simp only [sset_eq, upd, ↓reduceIte]; rfl) dX0_nextAct_15 ?_
  exact x_iret X h hr rfl rfl (fun _ _ => rfl) dX0_nextAct_16

set_option maxHeartbeats 4000000 in
set_option maxRecDepth 100000 in
theorem m_X0_makeEntry {l : Launch} {D : va_G} {tc : TC} {dz : Nat} {ad : KN → Nat} {Ks : List KN} {gm : GM} (I : Mem) (b : Nat) (hL : LV gm Ks) (hG : GMok gm) (hb2 : b < 2) (n : Nat) (mcs : Nat → Nat) (hB : BK gm I b n mcs) (d : Nat) (hd : d < 6) (hn9 : n < 10) : MI l yX0_makeEntry cX0_makeEntry 3 (Option.some ClassFile.FieldType.int) 1 D tc dz ad Ks (lay tc ad gm dz I) [.ref (ad (1, b, 0, 0)), .int (nI d)] (nI n) (lay tc ad gm dz (mkeM I b d n)) := by
  intro sz
  obtain ⟨hn, hn10, hmk⟩ := id hB
  refine x_ofW (by decide +kernel) (Nat.le_of_ble_eq_true rfl) (fun pp ee s mm bel meth cd ls X hr hin hz h hl => ?_)
  subst hz
  obtain ⟨hx, hb, hmaxL, hown, hts⟩ := id X.1
  have hl : lv_has ls 3 [(0, .ref (ad (1, b, 0, 0))), (1, .int (nI d))] := hl
  refine lv_aload_n hx hb dX0_makeEntry_0 rfl (lv_at hl 0 rfl) ?_
  refine gf_Books_entryCount X h (hL (1, b, 0, 0) ⟨by omega, rfl, rfl⟩) q150 (v := nI n) hn dX0_makeEntry_1 ?_
  refine lv_bipush (v := nI 10) hx hb dX0_makeEntry_4 (by decide) ?_
  refine n_icmp_ge (tgt := 16) hx hb (by omega) (by omega) dX0_makeEntry_6 (by decide) (fun c_6 => ?_) (fun c_6 => ?_)
  · skip
    exact absurd c_6 (by omega)
  · skip
    refine lv_iload_n hx hb dX0_makeEntry_9 rfl (lv_at hl 1 rfl) ?_
    refine x_doneI X h (x_runSN X h (m_X6_isDevice_in I d (by omega) _) F_X6_isDevice t420 q206 rfl (by decide) (by decide) ⟨Nat.le_refl _, Nat.le_refl _⟩ hl.1 (Nat.le_of_ble_eq_true rfl) dX0_makeEntry_10 rfl) (fun H locs h => ?_)
    refine b_if_ne (tgt := 21) hx hb dX0_makeEntry_13 (by decide) (fun _ => ?_) (fun c => (Bool.noConfusion c))
    refine lv_aload_n hx hb dX0_makeEntry_21 rfl (lv_at hl 0 rfl) ?_
    refine gf_Books_entryCount X h (hL (1, b, 0, 0) ⟨by omega, rfl, rfl⟩) q150 (v := nI n) hn dX0_makeEntry_22 ?_
    refine lv_istore_n (lv' := [(2, .int (nI n)), (0, .ref (ad (1, b, 0, 0))), (1, .int (nI d))]) hx hb dX0_makeEntry_25 rfl hl (by decide) rfl (fun ls hl => ?_)
    refine lv_aload_n hx hb dX0_makeEntry_26 rfl (lv_at hl 1 rfl) ?_
    refine lv_dup hx hb dX0_makeEntry_27 rfl ?_
    refine gf_Books_entryCount X h (hL (1, b, 0, 0) ⟨by omega, rfl, rfl⟩) q150 (v := nI n) hn dX0_makeEntry_28 ?_
    refine lv_iconst (v := nI 1) hx hb dX0_makeEntry_31 (by decide) ?_
    refine n_iadd hx hb dX0_makeEntry_32 ?_
    refine pf_Books_entryCount X h (hL (1, b, 0, 0) ⟨by omega, rfl, rfl⟩) q150 dX0_makeEntry_33 (fun H locs h => ?_)
    refine lv_aload_n hx hb dX0_makeEntry_36 rfl (lv_at hl 1 rfl) ?_
    refine gf_Books_entries X h (hL (1, b, 0, 0) ⟨by omega, rfl, rfl⟩) q153 dX0_makeEntry_37 ?_
    refine lv_iload_n hx hb dX0_makeEntry_40 rfl (lv_at hl 0 rfl) ?_
    refine ra_entries X h (hL (3, b, 0, 0) ⟨by omega, rfl, rfl⟩) (j := n) (by omega) dX0_makeEntry_41 ?_
    refine lv_iload_n hx hb dX0_makeEntry_42 rfl (lv_at hl 2 rfl) ?_
    refine x_doneI X h (x_runSN X h (m_X6_personOf (sset I (1, b, 0, 0) (upd (I (1, b, 0, 0)) 1 (nI (n + 1)))) d (by omega) _) F_X6_personOf t421 q348 rfl (by decide) (by decide) ⟨Nat.le_refl _, Nat.le_refl _⟩ hl.1 (Nat.le_of_ble_eq_true rfl) dX0_makeEntry_43 rfl) (fun H locs h => ?_)
    refine pf_Entry_owner X h (hL (4, b, n, 0) ⟨by omega, by omega, rfl⟩) q128 dX0_makeEntry_46 (fun H locs h => ?_)
    refine lv_aload_n hx hb dX0_makeEntry_49 rfl (lv_at hl 1 rfl) ?_
    refine gf_Books_entries X h (hL (1, b, 0, 0) ⟨by omega, rfl, rfl⟩) q153 dX0_makeEntry_50 ?_
    refine lv_iload_n hx hb dX0_makeEntry_53 rfl (lv_at hl 0 rfl) ?_
    refine ra_entries X h (hL (3, b, 0, 0) ⟨by omega, rfl, rfl⟩) (j := n) (by omega) dX0_makeEntry_54 ?_
    refine gf_Entry_copies X h (hL (4, b, n, 0) ⟨by omega, by omega, rfl⟩) q134 dX0_makeEntry_55 ?_
    refine lv_iload_n hx hb dX0_makeEntry_58 rfl (lv_at hl 2 rfl) ?_
    refine ra_copies X h (hL (6, b, n, 0) ⟨by omega, by omega, rfl⟩) (j := d) (by omega) dX0_makeEntry_59 ?_
    refine lv_iconst (v := nI 1) hx hb dX0_makeEntry_60 (by decide) ?_
    refine pf_Copy_known X h (hL (9, b, n, d) ⟨by omega, by omega, by omega⟩) q99 (by decide) (by decide) dX0_makeEntry_61 (fun H locs h => ?_)
    refine lv_iload_n hx hb dX0_makeEntry_64 rfl (lv_at hl 0 rfl) ?_
    refine x_iret X h hr rfl rfl (fun k _ => congrFun (congrArg (lay tc ad gm dz) ?_) k) dX0_makeEntry_65
    · simp only [mkeM, sset_ne _ _ ((nek (by decide)) : ((4, b, n, 0) : KN) ≠ (1, b, 0, 0)), sset_ne _ _ ((nek (by decide)) : ((9, b, n, d) : KN) ≠ (1, b, 0, 0)), sset_ne _ _ ((nek (by decide)) : ((9, b, n, d) : KN) ≠ (4, b, n, 0))] <;> rfl

set_option maxHeartbeats 4000000 in
set_option maxRecDepth 100000 in
theorem m_X0_tellValue {l : Launch} {D : va_G} {tc : TC} {dz : Nat} {ad : KN → Nat} {Ks : List KN} {gm : GM} (I : Mem) (b : Nat) (hL : LV gm Ks) (hG : GMok gm) (hb2 : b < 2) (n : Nat) (mcs : Nat → Nat) (hB : BK gm I b n mcs) (d e f : Nat) (v : Int32) (hd : d < 6) (he : e < n) (hf : f < 4) : MI l yX0_tellValue cX0_tellValue 10 (Option.some ClassFile.FieldType.int) 2 D tc dz ad Ks (lay tc ad gm dz I) [.ref (ad (1, b, 0, 0)), .int (nI d), .int (nI e), .int (nI f), .int v] (nI (cvF (I (10, b, e, d)) f)) (lay tc ad gm dz (tllM I b e f d v)) := by
  intro sz
  obtain ⟨hn, hn10, hmk⟩ := id hB
  refine x_ofW (by decide +kernel) (Nat.le_of_ble_eq_true rfl) (fun pp ee s mm bel meth cd ls X hr hin hz h hl => ?_)
  subst hz
  obtain ⟨hx, hb, hmaxL, hown, hts⟩ := id X.1
  have hl : lv_has ls 10 [(0, .ref (ad (1, b, 0, 0))), (1, .int (nI d)), (2, .int (nI e)), (3, .int (nI f)), (4, .int v)] := hl
  refine lv_aload_n hx hb dX0_tellValue_0 rfl (lv_at hl 0 rfl) ?_
  refine lv_iload_n hx hb dX0_tellValue_1 rfl (lv_at hl 2 rfl) ?_
  refine x_doneA X h (x_runV X h (k := (1, b, 0, 0)) (m_X0_find_in I b hL hG (by omega) n mcs hB e (by omega) _) F_X0_find q464 q430 q431 (hL (1, b, 0, 0) ⟨by omega, rfl, rfl⟩) rfl rfl rfl (by decide) (by decide) ⟨Nat.le_refl _, Nat.le_refl _⟩ hl.1 (Nat.le_of_ble_eq_true rfl) dX0_tellValue_2 rfl) (fun H locs h => ?_)
  refine lv_astore (lv' := [(5, .ref (ad (4, b, e, 0))), (0, .ref (ad (1, b, 0, 0))), (1, .int (nI d)), (2, .int (nI e)), (3, .int (nI f)), (4, .int v)]) hx hb dX0_tellValue_5 hl (by decide) rfl (fun ls hl => ?_)
  refine lv_aload hx hb dX0_tellValue_7 (lv_at hl 0 rfl) ?_
  refine lv_ifnull hx hb dX0_tellValue_9 ?_
  refine lv_iload_n hx hb dX0_tellValue_12 rfl (lv_at hl 2 rfl) ?_
  refine x_doneI X h (x_runSN X h (m_X6_isDevice_in I d (by omega) _) F_X6_isDevice t420 q206 rfl (by decide) (by decide) ⟨Nat.le_refl _, Nat.le_refl _⟩ hl.1 (Nat.le_of_ble_eq_true rfl) dX0_tellValue_13 rfl) (fun H locs h => ?_)
  refine b_if_eq (tgt := 26) hx hb dX0_tellValue_16 (by decide) (fun c => (Bool.noConfusion c)) (fun _ => ?_)
  refine lv_iload_n hx hb dX0_tellValue_19 rfl (lv_at hl 4 rfl) ?_
  refine x_doneI X h (x_runSN X h (m_X6_isField_in I f (by omega) _) F_X6_isField t465 q438 rfl (by decide) (by decide) ⟨Nat.le_refl _, Nat.le_refl _⟩ hl.1 (Nat.le_of_ble_eq_true rfl) dX0_tellValue_20 rfl) (fun H locs h => ?_)
  refine b_if_ne (tgt := 28) hx hb dX0_tellValue_23 (by decide) (fun _ => ?_) (fun c => (Bool.noConfusion c))
  refine lv_aload hx hb dX0_tellValue_28 (lv_at hl 0 rfl) ?_
  refine gf_Entry_copies X h (hL (4, b, e, 0) ⟨by omega, by omega, rfl⟩) q134 dX0_tellValue_30 ?_
  refine lv_iload_n hx hb dX0_tellValue_33 rfl (lv_at hl 2 rfl) ?_
  refine ra_copies X h (hL (6, b, e, 0) ⟨by omega, by omega, rfl⟩) (j := d) (by omega) dX0_tellValue_34 ?_
  refine lv_astore (lv' := [(6, .ref (ad (9, b, e, d))), (5, .ref (ad (4, b, e, 0))), (0, .ref (ad (1, b, 0, 0))), (1, .int (nI d)), (2, .int (nI e)), (3, .int (nI f)), (4, .int v)]) hx hb dX0_tellValue_35 hl (by decide) rfl (fun ls hl => ?_)
  refine lv_aload hx hb dX0_tellValue_37 (lv_at hl 0 rfl) ?_
  refine lv_iload_n hx hb dX0_tellValue_39 rfl (lv_at hl 5 rfl) ?_
  refine x_doneI X h (x_runV X h (k := (9, b, e, d)) (m_X1_countValues I b e d hL (by omega) (by omega) (by omega) f (by omega) _) F_X1_countValues q466 q324 q325 (hL (9, b, e, d) ⟨by omega, by omega, by omega⟩) rfl rfl rfl (by decide) (by decide) ⟨Nat.le_refl _, Nat.le_refl _⟩ hl.1 (Nat.le_of_ble_eq_true rfl) dX0_tellValue_40 rfl) (fun H locs h => ?_)
  refine lv_istore (lv' := [(7, .int (nI (cvF (I (10, b, e, d)) f))), (6, .ref (ad (9, b, e, d))), (5, .ref (ad (4, b, e, 0))), (0, .ref (ad (1, b, 0, 0))), (1, .int (nI d)), (2, .int (nI e)), (3, .int (nI f)), (4, .int v)]) hx hb dX0_tellValue_43 hl (by decide) rfl (fun ls hl => ?_)
  refine lv_aload hx hb dX0_tellValue_45 (lv_at hl 1 rfl) ?_
  refine lv_iload_n hx hb dX0_tellValue_47 rfl (lv_at hl 6 rfl) ?_
  refine x_doneV X h (x_runV X h (k := (9, b, e, d)) (m_X1_dropValues I b e d hL (by omega) (by omega) (by omega) f (by omega) _) F_X1_dropValues q467 q468 q469 (hL (9, b, e, d) ⟨by omega, by omega, by omega⟩) rfl rfl rfl (by decide) (by decide) ⟨Nat.le_refl _, Nat.le_refl _⟩ hl.1 (Nat.le_of_ble_eq_true rfl) dX0_tellValue_48 rfl) (fun H locs h => ?_)
  refine lv_aload_n hx hb dX0_tellValue_51 rfl (lv_at hl 3 rfl) ?_
  refine lv_iload_n hx hb dX0_tellValue_52 rfl (lv_at hl 4 rfl) ?_
  refine x_doneI X h (x_runV X h (k := (1, b, 0, 0)) (m_X0_nextAct (dropM f I b e d) b hL (by omega) d (by omega) _) F_X0_nextAct q471 q472 q473 (hL (1, b, 0, 0) ⟨by omega, rfl, rfl⟩) rfl rfl rfl (by decide) (by decide) ⟨Nat.le_refl _, Nat.le_refl _⟩ hl.1 (Nat.le_of_ble_eq_true rfl) dX0_tellValue_53 rfl) (fun H locs h => ?_)
  rw [show (dropM f I b e d) (2, b, 0, 0) d + 1 = I (2, b, 0, 0) d + 1 from by rw [dropM, sset_ne _ _ ((nek (by decide)) : ((2, b, 0, 0) : KN) ≠ (11, b, e, d)), sset_ne _ _ ((nek (by decide)) : ((2, b, 0, 0) : KN) ≠ (10, b, e, d))]]
  refine lv_istore (lv' := [(8, .int (I (2, b, 0, 0) d + 1)), (7, .int (nI (cvF (I (10, b, e, d)) f))), (6, .ref (ad (9, b, e, d))), (5, .ref (ad (4, b, e, 0))), (0, .ref (ad (1, b, 0, 0))), (1, .int (nI d)), (2, .int (nI e)), (3, .int (nI f)), (4, .int v)]) hx hb dX0_tellValue_56 hl (by decide) rfl (fun ls hl => ?_)
  refine lv_iload_n hx hb dX0_tellValue_58 rfl (lv_at hl 7 rfl) ?_
  refine lv_iload_n hx hb dX0_tellValue_59 rfl (lv_at hl 5 rfl) ?_
  refine x_doneI X h (x_runSN X h (m_X6_cell (nxtM (dropM f I b e d) b d) f d _) F_X6_cell t475 q328 rfl (by decide) (by decide) ⟨Nat.le_refl _, Nat.le_refl _⟩ hl.1 (Nat.le_of_ble_eq_true rfl) dX0_tellValue_60 rfl) (fun H locs h => ?_)
  refine lv_istore (lv' := [(9, .int (nI (f * 6 + d))), (8, .int (I (2, b, 0, 0) d + 1)), (7, .int (nI (cvF (I (10, b, e, d)) f))), (6, .ref (ad (9, b, e, d))), (5, .ref (ad (4, b, e, 0))), (0, .ref (ad (1, b, 0, 0))), (1, .int (nI d)), (2, .int (nI e)), (3, .int (nI f)), (4, .int v)]) hx hb dX0_tellValue_63 hl (by decide) rfl (fun ls hl => ?_)
  refine lv_aload hx hb dX0_tellValue_65 (lv_at hl 3 rfl) ?_
  refine gf_Copy_seen X h (hL (9, b, e, d) ⟨by omega, by omega, by omega⟩) q109 dX0_tellValue_67 ?_
  refine gf_Numbers_numbers X h (fun _ => rfl) (hL (12, b, e, d) ⟨by omega, by omega, by omega⟩) q91 dX0_tellValue_70 ?_
  refine lv_iload hx hb dX0_tellValue_73 (lv_at hl 0 rfl) ?_
  refine lv_iload hx hb dX0_tellValue_75 (lv_at hl 1 rfl) ?_
  refine y_ast X h (fun _ => rfl) (by decide) (hL (13, b, e, d) ⟨by omega, by omega, by omega⟩) (by omega) dX0_tellValue_77 (fun H locs h => ?_)
  have h := h.eq (congrArg (lay tc ad gm dz) (show (sset (nxtM (dropM f I b e d) b d) (13, b, e, d) (upd ((nxtM (dropM f I b e d) b d) (13, b, e, d)) (f * 6 + d) (I (2, b, 0, 0) d + 1))) = (tl1M I b e f d) from (by simp only [tl1M, nxtM, dropM, sset_ne _ _ ((nek (by decide)) : ((2, b, 0, 0) : KN) ≠ (11, b, e, d)), sset_ne _ _ ((nek (by decide)) : ((2, b, 0, 0) : KN) ≠ (10, b, e, d)), sset_ne _ _ ((nek (by decide)) : ((13, b, e, d) : KN) ≠ (2, b, 0, 0)), sset_ne _ _ ((nek (by decide)) : ((13, b, e, d) : KN) ≠ (11, b, e, d)), sset_ne _ _ ((nek (by decide)) : ((13, b, e, d) : KN) ≠ (10, b, e, d))])))
  refine lv_iload hx hb dX0_tellValue_78 (lv_at hl 9 rfl) ?_
  refine lv_iconst (v := (-1)) hx hb dX0_tellValue_80 (by decide) ?_
  refine lv_icmp_eq (tgt := 104) hx hb dX0_tellValue_81 (by decide) (fun c_81 => ?_) (fun c_81 => ?_)
  · skip
    refine lv_iload hx hb dX0_tellValue_104 (lv_at hl 2 rfl) ?_
    refine x_iret X h hr rfl rfl (fun k _ => congrFun (congrArg (lay tc ad gm dz) ?_) k) dX0_tellValue_106
    · rw [tllM, if_pos c_81]
  · skip
    refine lv_aload hx hb dX0_tellValue_84 (lv_at hl 3 rfl) ?_
    refine gf_Copy_acts X h (hL (9, b, e, d) ⟨by omega, by omega, by omega⟩) q105 dX0_tellValue_86 ?_
    refine lv_iload hx hb dX0_tellValue_89 (lv_at hl 0 rfl) ?_
    refine lv_iload hx hb dX0_tellValue_91 (lv_at hl 1 rfl) ?_
    refine y_ast X h (fun _ => rfl) (by decide) (hL (10, b, e, d) ⟨by omega, by omega, by omega⟩) (by omega) dX0_tellValue_93 (fun H locs h => ?_)
    refine lv_aload hx hb dX0_tellValue_94 (lv_at hl 3 rfl) ?_
    refine gf_Copy_told X h (hL (9, b, e, d) ⟨by omega, by omega, by omega⟩) q107 dX0_tellValue_96 ?_
    refine lv_iload hx hb dX0_tellValue_99 (lv_at hl 0 rfl) ?_
    refine lv_iload hx hb dX0_tellValue_101 (lv_at hl 9 rfl) ?_
    refine y_ast X h (fun _ => rfl) (by decide) (hL (11, b, e, d) ⟨by omega, by omega, by omega⟩) (by omega) dX0_tellValue_103 (fun H locs h => ?_)
    refine lv_iload hx hb dX0_tellValue_104 (lv_at hl 2 rfl) ?_
    refine x_iret X h hr rfl rfl (fun k _ => congrFun (congrArg (lay tc ad gm dz) ?_) k) dX0_tellValue_106
    · rw [tllM, if_neg c_81, sset_ne _ _ ((nek (by decide)) : ((11, b, e, d) : KN) ≠ (10, b, e, d))]

set_option maxHeartbeats 4000000 in
set_option maxRecDepth 100000 in
theorem m_X0_shareFields {l : Launch} {D : va_G} {tc : TC} {dz : Nat} {ad : KN → Nat} {Ks : List KN} {gm : GM} (I : Mem) (b : Nat) (hL : LV gm Ks) (hG : GMok gm) (hb2 : b < 2) (n : Nat) (mcs : Nat → Nat) (hB : BK gm I b n mcs) (e q : Nat) (F : Int32) (he : e < n) (hq : q < 3) : MI l yX0_shareFields cX0_shareFields 7 (Option.some ClassFile.FieldType.int) 2 D tc dz ad Ks (lay tc ad gm dz I) [.ref (ad (1, b, 0, 0)), .int (nI e), .int (nI q), .int F] (I (5, b, e, 0) q) (lay tc ad gm dz (shrM I b e q F 6)) := by
  intro sz
  obtain ⟨hn, hn10, hmk⟩ := id hB
  refine x_ofW (by decide +kernel) (Nat.le_of_ble_eq_true rfl) (fun pp ee s mm bel meth cd ls X hr hin hz h hl => ?_)
  subst hz
  obtain ⟨hx, hb, hmaxL, hown, hts⟩ := id X.1
  have hl : lv_has ls 7 [(0, .ref (ad (1, b, 0, 0))), (1, .int (nI e)), (2, .int (nI q)), (3, .int F)] := hl
  refine lv_aload_n hx hb dX0_shareFields_0 rfl (lv_at hl 0 rfl) ?_
  refine lv_iload_n hx hb dX0_shareFields_1 rfl (lv_at hl 1 rfl) ?_
  refine x_doneA X h (x_runV X h (k := (1, b, 0, 0)) (m_X0_find_in I b hL hG (by omega) n mcs hB e (by omega) _) F_X0_find q464 q430 q431 (hL (1, b, 0, 0) ⟨by omega, rfl, rfl⟩) rfl rfl rfl (by decide) (by decide) ⟨Nat.le_refl _, Nat.le_refl _⟩ hl.1 (Nat.le_of_ble_eq_true rfl) dX0_shareFields_2 rfl) (fun H locs h => ?_)
  refine lv_astore (lv' := [(4, .ref (ad (4, b, e, 0))), (0, .ref (ad (1, b, 0, 0))), (1, .int (nI e)), (2, .int (nI q)), (3, .int F)]) hx hb dX0_shareFields_5 hl (by decide) rfl (fun ls hl => ?_)
  refine lv_aload hx hb dX0_shareFields_7 (lv_at hl 0 rfl) ?_
  refine lv_ifnull hx hb dX0_shareFields_9 ?_
  refine lv_iload_n hx hb dX0_shareFields_12 rfl (lv_at hl 3 rfl) ?_
  refine x_doneI X h (x_runSN X h (m_X6_isPerson_in I q (by omega) _) F_X6_isPerson t597 q588 rfl (by decide) (by decide) ⟨Nat.le_refl _, Nat.le_refl _⟩ hl.1 (Nat.le_of_ble_eq_true rfl) dX0_shareFields_13 rfl) (fun H locs h => ?_)
  refine b_if_ne (tgt := 21) hx hb dX0_shareFields_16 (by decide) (fun _ => ?_) (fun c => (Bool.noConfusion c))
  refine lv_aload hx hb dX0_shareFields_21 (lv_at hl 0 rfl) ?_
  refine gf_Entry_shared X h (hL (4, b, e, 0) ⟨by omega, by omega, rfl⟩) q132 dX0_shareFields_23 ?_
  refine lv_iload_n hx hb dX0_shareFields_26 rfl (lv_at hl 3 rfl) ?_
  refine y_ald X h (fun _ => rfl) (by decide) (hL (5, b, e, 0) ⟨by omega, by omega, rfl⟩) (by omega) (v := I (5, b, e, 0) q) rfl dX0_shareFields_27 ?_
  refine lv_istore (lv' := [(5, .int (I (5, b, e, 0) q)), (4, .ref (ad (4, b, e, 0))), (0, .ref (ad (1, b, 0, 0))), (1, .int (nI e)), (2, .int (nI q)), (3, .int F)]) hx hb dX0_shareFields_28 hl (by decide) rfl (fun ls hl => ?_)
  refine lv_aload hx hb dX0_shareFields_30 (lv_at hl 1 rfl) ?_
  refine gf_Entry_shared X h (hL (4, b, e, 0) ⟨by omega, by omega, rfl⟩) q132 dX0_shareFields_32 ?_
  refine lv_iload_n hx hb dX0_shareFields_35 rfl (lv_at hl 4 rfl) ?_
  refine lv_iload_n hx hb dX0_shareFields_36 rfl (lv_at hl 5 rfl) ?_
  refine y_ast X h (fun _ => rfl) (by decide) (hL (5, b, e, 0) ⟨by omega, by omega, rfl⟩) (by omega) dX0_shareFields_37 (fun H locs h => ?_)
  refine lv_iconst (v := nI 0) hx hb dX0_shareFields_38 (by decide) ?_
  refine lv_istore (lv' := [(6, .int (nI 0)), (5, .int (I (5, b, e, 0) q)), (4, .ref (ad (4, b, e, 0))), (0, .ref (ad (1, b, 0, 0))), (1, .int (nI e)), (2, .int (nI q)), (3, .int F)]) hx hb dX0_shareFields_39 hl (by decide) rfl (fun ls hl => ?_)
  refine y_loop (D := D) (A := wA ad Ks s.heap.size) (ad := ad) (Ks := Ks) (nL := 7) (fun i : Nat => lay tc ad gm dz (shrM I b e q F i)) (fun i => [(6, .int (nI i)), (5, .int (I (5, b, e, 0) q)), (4, .ref (ad (4, b, e, 0))), (3, .int F), (2, .int (nI q)), (1, .int (nI e)), (0, .ref (ad (1, b, 0, 0)))]) (fun _ => []) (fun i : Nat => i ≤ 6) (fun i => 6 - i) (fun i hi41 ih41 H locs ls h hl => ?_) 0 (Nat.zero_le _) (h.eq (congrArg (lay tc ad gm dz) rfl)) (lv_sub hl [0, 1, 2, 6, 5, 4, 3] rfl) rfl
  have h : Sx D (wA ad Ks s.heap.size) ad Ks (lay tc ad gm dz (shrM I b e q F i)) s H locs := h
  have hl : lv_has ls 7 [(6, .int (nI i)), (5, .int (I (5, b, e, 0) q)), (4, .ref (ad (4, b, e, 0))), (3, .int F), (2, .int (nI q)), (1, .int (nI e)), (0, .ref (ad (1, b, 0, 0)))] := hl
  refine lv_iload hx hb dX0_shareFields_41 (lv_at hl 0 rfl) ?_
  refine lv_bipush (v := nI 6) hx hb dX0_shareFields_43 (by decide) ?_
  refine n_icmp_ge (tgt := 75) hx hb (by omega) (by omega) dX0_shareFields_45 (by decide) (fun c_45 => ?_) (fun c_45 => ?_)
  · skip
    obtain rfl : i = 6 := by omega
    refine lv_iload hx hb dX0_shareFields_75 (lv_at hl 1 rfl) ?_
    exact x_iret X h hr rfl rfl (fun _ _ => rfl) dX0_shareFields_77
  · skip
    refine lv_iload hx hb dX0_shareFields_48 (lv_at hl 0 rfl) ?_
    refine x_doneI X h (x_runSN X h (m_X6_personOf (shrM I b e q F i) i (by omega) _) F_X6_personOf t421 q348 rfl (by decide) (by decide) ⟨Nat.le_refl _, Nat.le_refl _⟩ hl.1 (Nat.le_of_ble_eq_true rfl) dX0_shareFields_50 rfl) (fun H locs h => ?_)
    refine lv_iload_n hx hb dX0_shareFields_53 rfl (lv_at hl 4 rfl) ?_
    refine n_icmp_ne (tgt := 69) hx hb (by omega) (by omega) dX0_shareFields_54 (by decide) (fun c_54 => ?_) (fun c_54 => ?_)
    · skip
      refine n_iinc (j := i) (n := 1) (lv' := [(6, .int (nI (i + 1))), (5, .int (I (5, b, e, 0) q)), (4, .ref (ad (4, b, e, 0))), (3, .int F), (2, .int (nI q)), (1, .int (nI e)), (0, .ref (ad (1, b, 0, 0)))]) hx hb dX0_shareFields_69 hl (k := 0) rfl (by decide) (by decide) rfl (fun ls hl => ?_)
      refine lv_goto (tgt := 41) hx hb dX0_shareFields_72 (by decide) ?_
      have hm : (shrM I b e q F i) = (shrM I b e q F (i + 1)) := by
        rw [shrM, if_neg c_54]
      exact ih41 (i + 1) (by omega) (by omega) H locs ls (h.eq (congrArg (lay tc ad gm dz) hm)) (lv_sub hl [0, 1, 2, 3, 4, 5, 6] rfl)
    · skip
      refine lv_aload hx hb dX0_shareFields_57 (lv_at hl 2 rfl) ?_
      refine gf_Entry_copies X h (hL (4, b, e, 0) ⟨by omega, by omega, rfl⟩) q134 dX0_shareFields_59 ?_
      refine lv_iload hx hb dX0_shareFields_62 (lv_at hl 0 rfl) ?_
      refine ra_copies X h (hL (6, b, e, 0) ⟨by omega, by omega, rfl⟩) (j := i) (by omega) dX0_shareFields_64 ?_
      refine lv_iload_n hx hb dX0_shareFields_65 rfl (lv_at hl 3 rfl) ?_
      refine x_doneV X h (x_runV X h (k := (9, b, e, i)) (m_X1_keepFields (shrM I b e q F i) b e i hL (by omega) (by omega) (by omega) F _) F_X1_keepFields q598 q599 q600 (hL (9, b, e, i) ⟨by omega, by omega, by omega⟩) rfl rfl rfl (by decide) (by decide) ⟨Nat.le_refl _, Nat.le_refl _⟩ hl.1 (Nat.le_of_ble_eq_true rfl) dX0_shareFields_66 rfl) (fun H locs h => ?_)
      refine n_iinc (j := i) (n := 1) (lv' := [(6, .int (nI (i + 1))), (5, .int (I (5, b, e, 0) q)), (4, .ref (ad (4, b, e, 0))), (3, .int F), (2, .int (nI q)), (1, .int (nI e)), (0, .ref (ad (1, b, 0, 0)))]) hx hb dX0_shareFields_69 hl (k := 0) rfl (by decide) (by decide) rfl (fun ls hl => ?_)
      refine lv_goto (tgt := 41) hx hb dX0_shareFields_72 (by decide) ?_
      have hm : (keepM F (shrM I b e q F i) b e i) = (shrM I b e q F (i + 1)) := by
        rw [shrM, if_pos c_54]
      exact ih41 (i + 1) (by omega) (by omega) H locs ls (h.eq (congrArg (lay tc ad gm dz) hm)) (lv_sub hl [0, 1, 2, 3, 4, 5, 6] rfl)

set_option maxHeartbeats 4000000 in
set_option maxRecDepth 100000 in
theorem m_X0_mergeDevices {l : Launch} {D : va_G} {tc : TC} {dz : Nat} {ad : KN → Nat} {Ks : List KN} {gm : GM} (I : Mem) (b : Nat) (hL : LV gm Ks) (hG : GMok gm) (hb2 : b < 2) (n : Nat) (mcs : Nat → Nat) (hB : BK gm I b n mcs) (d d2 : Nat) (hd : d < 6) (hd2 : d2 < 6) (hne : d ≠ d2) : MI l yX0_mergeDevices cX0_mergeDevices 5 (Option.some ClassFile.FieldType.int) 5 D tc dz ad Ks (lay tc ad gm dz I) [.ref (ad (1, b, 0, 0)), .int (nI d), .int (nI d2)] (mgdR I b d d2 mcs n) (lay tc ad gm dz (mgdM I b d d2 mcs n)) := by
  intro sz
  obtain ⟨hn, hn10, hmk⟩ := id hB
  refine x_ofW (by decide +kernel) (Nat.le_of_ble_eq_true rfl) (fun pp ee s mm bel meth cd ls X hr hin hz h hl => ?_)
  subst hz
  obtain ⟨hx, hb, hmaxL, hown, hts⟩ := id X.1
  have hl : lv_has ls 5 [(0, .ref (ad (1, b, 0, 0))), (1, .int (nI d)), (2, .int (nI d2))] := hl
  refine lv_iconst (v := nI 0) hx hb dX0_mergeDevices_0 (by decide) ?_
  refine lv_istore_n (lv' := [(3, .int (nI 0)), (0, .ref (ad (1, b, 0, 0))), (1, .int (nI d)), (2, .int (nI d2))]) hx hb dX0_mergeDevices_1 rfl hl (by decide) rfl (fun ls hl => ?_)
  refine lv_iload_n hx hb dX0_mergeDevices_2 rfl (lv_at hl 2 rfl) ?_
  refine x_doneI X h (x_runSN X h (m_X6_isDevice_in I d (by omega) _) F_X6_isDevice t420 q206 rfl (by decide) (by decide) ⟨Nat.le_refl _, Nat.le_refl _⟩ hl.1 (Nat.le_of_ble_eq_true rfl) dX0_mergeDevices_3 rfl) (fun H locs h => ?_)
  refine b_if_eq (tgt := 16) hx hb dX0_mergeDevices_6 (by decide) (fun c => (Bool.noConfusion c)) (fun _ => ?_)
  refine lv_iload_n hx hb dX0_mergeDevices_9 rfl (lv_at hl 3 rfl) ?_
  refine x_doneI X h (x_runSN X h (m_X6_isDevice_in I d2 (by omega) _) F_X6_isDevice t420 q206 rfl (by decide) (by decide) ⟨Nat.le_refl _, Nat.le_refl _⟩ hl.1 (Nat.le_of_ble_eq_true rfl) dX0_mergeDevices_10 rfl) (fun H locs h => ?_)
  refine b_if_ne (tgt := 18) hx hb dX0_mergeDevices_13 (by decide) (fun _ => ?_) (fun c => (Bool.noConfusion c))
  refine lv_iconst (v := nI 0) hx hb dX0_mergeDevices_18 (by decide) ?_
  refine lv_istore (lv' := [(4, .int (nI 0)), (3, .int (nI 0)), (0, .ref (ad (1, b, 0, 0))), (1, .int (nI d)), (2, .int (nI d2))]) hx hb dX0_mergeDevices_19 hl (by decide) rfl (fun ls hl => ?_)
  refine y_loop (D := D) (A := wA ad Ks s.heap.size) (ad := ad) (Ks := Ks) (nL := 5) (fun i : Nat => lay tc ad gm dz (mgdM I b d d2 mcs i)) (fun i => [(4, .int (nI i)), (3, .int (mgdR I b d d2 mcs i)), (2, .int (nI d2)), (1, .int (nI d)), (0, .ref (ad (1, b, 0, 0)))]) (fun _ => []) (fun i : Nat => i ≤ n) (fun i => n - i) (fun i hi21 ih21 H locs ls h hl => ?_) 0 (Nat.zero_le _) (h.eq (congrArg (lay tc ad gm dz) rfl)) (lv_sub hl [0, 1, 4, 3, 2] rfl) rfl
  have h : Sx D (wA ad Ks s.heap.size) ad Ks (lay tc ad gm dz (mgdM I b d d2 mcs i)) s H locs := h
  have hl : lv_has ls 5 [(4, .int (nI i)), (3, .int (mgdR I b d d2 mcs i)), (2, .int (nI d2)), (1, .int (nI d)), (0, .ref (ad (1, b, 0, 0)))] := hl
  refine lv_iload hx hb dX0_mergeDevices_21 (lv_at hl 0 rfl) ?_
  refine lv_bipush (v := nI 10) hx hb dX0_mergeDevices_23 (by decide) ?_
  refine n_icmp_ge (tgt := 62) hx hb (by omega) (by omega) dX0_mergeDevices_25 (by decide) (fun c_25 => ?_) (fun c_25 => ?_)
  · skip
    have him : n = i := by omega
    subst him
    refine lv_iload_n hx hb dX0_mergeDevices_62 rfl (lv_at hl 1 rfl) ?_
    exact x_iret X h hr rfl rfl (fun _ _ => rfl) dX0_mergeDevices_63
  · skip
    refine lv_iload hx hb dX0_mergeDevices_28 (lv_at hl 0 rfl) ?_
    refine lv_aload_n hx hb dX0_mergeDevices_30 rfl (lv_at hl 4 rfl) ?_
    refine gf_Books_entryCount X h (hL (1, b, 0, 0) ⟨by omega, rfl, rfl⟩) q150 (v := nI n) ((congrFun (mgd_see off1 i) 1).trans hn) dX0_mergeDevices_31 ?_
    refine n_icmp_ge (tgt := 62) hx hb (by omega) (by omega) dX0_mergeDevices_34 (by decide) (fun c_34 => ?_) (fun c_34 => ?_)
    · skip
      have him : n = i := by omega
      subst him
      refine lv_iload_n hx hb dX0_mergeDevices_62 rfl (lv_at hl 1 rfl) ?_
      exact x_iret X h hr rfl rfl (fun _ _ => rfl) dX0_mergeDevices_63
    · skip
      refine lv_iload_n hx hb dX0_mergeDevices_37 rfl (lv_at hl 1 rfl) ?_
      refine lv_aload_n hx hb dX0_mergeDevices_38 rfl (lv_at hl 4 rfl) ?_
      refine gf_Books_entries X h (hL (1, b, 0, 0) ⟨by omega, rfl, rfl⟩) q153 dX0_mergeDevices_39 ?_
      refine lv_iload hx hb dX0_mergeDevices_42 (lv_at hl 0 rfl) ?_
      refine ra_entries X h (hL (3, b, 0, 0) ⟨by omega, rfl, rfl⟩) (j := i) (by omega) dX0_mergeDevices_44 ?_
      refine lv_iload_n hx hb dX0_mergeDevices_45 rfl (lv_at hl 3 rfl) ?_
      refine lv_iload_n hx hb dX0_mergeDevices_46 rfl (lv_at hl 2 rfl) ?_
      refine lv_aload_n hx hb dX0_mergeDevices_47 rfl (lv_at hl 4 rfl) ?_
      refine gf_Books_month X h (hL (1, b, 0, 0) ⟨by omega, rfl, rfl⟩) q148 (v := I (1, b, 0, 0) 0) (congrFun (mgd_see off1 i) 0) dX0_mergeDevices_48 ?_
      refine x_doneI X h (x_runV X h (k := (4, b, i, 0)) (m_X2_mergeOn (mgdM I b d d2 mcs i) b i hL hG (by omega) (by omega) d d2 (by omega) (by omega) hne (I (1, b, 0, 0) 0) (mcs i) ((congrFun (mgd_see off4 i) 1).trans (hmk i (by omega)).1) (hmk i (by omega)).2 _) F_X2_mergeOn q612 q613 q614 (hL (4, b, i, 0) ⟨by omega, by omega, rfl⟩) rfl rfl rfl (by decide) (by decide) ⟨Nat.le_refl _, Nat.le_refl _⟩ hl.1 (Nat.le_of_ble_eq_true rfl) dX0_mergeDevices_51 rfl) (fun H locs h => ?_)
      refine lv_iadd hx hb dX0_mergeDevices_54 ?_
      rw [show (mgdR I b d d2 mcs i) + (mgeR (mgdM I b d d2 mcs i) b i d d2) = mgdR I b d d2 mcs (i + 1) from rfl]
      refine lv_istore_n (lv' := [(3, .int (mgdR I b d d2 mcs (i + 1))), (4, .int (nI i)), (2, .int (nI d2)), (1, .int (nI d)), (0, .ref (ad (1, b, 0, 0)))]) hx hb dX0_mergeDevices_55 rfl hl (by decide) rfl (fun ls hl => ?_)
      refine n_iinc (j := i) (n := 1) (lv' := [(4, .int (nI (i + 1))), (3, .int (mgdR I b d d2 mcs (i + 1))), (2, .int (nI d2)), (1, .int (nI d)), (0, .ref (ad (1, b, 0, 0)))]) hx hb dX0_mergeDevices_56 hl (k := 1) rfl (by decide) (by decide) rfl (fun ls hl => ?_)
      refine lv_goto (tgt := 21) hx hb dX0_mergeDevices_59 (by decide) ?_
      exact ih21 (i + 1) (by omega) (by omega) H locs ls (h.eq (congrArg (lay tc ad gm dz) rfl)) (lv_sub hl [0, 1, 2, 3, 4] rfl)

set_option maxHeartbeats 4000000 in
set_option maxRecDepth 100000 in
theorem m_X0_passMonths {l : Launch} {D : va_G} {tc : TC} {dz : Nat} {ad : KN → Nat} {Ks : List KN} {gm : GM} (I : Mem) (b : Nat) (hL : LV gm Ks) (hG : GMok gm) (hb2 : b < 2) (n : Nat) (mcs : Nat → Nat) (hB : BK gm I b n mcs) (k : Int32) : MI l yX0_passMonths cX0_passMonths 4 (Option.some ClassFile.FieldType.int) 6 D tc dz ad Ks (lay tc ad gm dz I) [.ref (ad (1, b, 0, 0)), .int k] (nI (pasN I b mcs k n)) (lay tc ad gm dz (pasM I b mcs k n)) := by
  intro sz
  obtain ⟨hn, hn10, hmk⟩ := id hB
  refine x_ofW (by decide +kernel) (Nat.le_of_ble_eq_true rfl) (fun pp ee s mm bel meth cd ls X hr hin hz h hl => ?_)
  subst hz
  obtain ⟨hx, hb, hmaxL, hown, hts⟩ := id X.1
  have hl : lv_has ls 4 [(0, .ref (ad (1, b, 0, 0))), (1, .int k)] := hl
  refine lv_aload_n hx hb dX0_passMonths_0 rfl (lv_at hl 0 rfl) ?_
  refine lv_dup hx hb dX0_passMonths_1 rfl ?_
  refine gf_Books_month X h (hL (1, b, 0, 0) ⟨by omega, rfl, rfl⟩) q148 (v := I (1, b, 0, 0) 0) rfl dX0_passMonths_2 ?_
  refine lv_iload_n hx hb dX0_passMonths_5 rfl (lv_at hl 1 rfl) ?_
  refine lv_iadd hx hb dX0_passMonths_6 ?_
  refine pf_Books_month X h (hL (1, b, 0, 0) ⟨by omega, rfl, rfl⟩) q148 dX0_passMonths_7 (fun H locs h => ?_)
  refine lv_iconst (v := nI 0) hx hb dX0_passMonths_10 (by decide) ?_
  refine lv_istore_n (lv' := [(2, .int (nI 0)), (0, .ref (ad (1, b, 0, 0))), (1, .int k)]) hx hb dX0_passMonths_11 rfl hl (by decide) rfl (fun ls hl => ?_)
  refine lv_iconst (v := nI 0) hx hb dX0_passMonths_12 (by decide) ?_
  refine lv_istore_n (lv' := [(3, .int (nI 0)), (2, .int (nI 0)), (0, .ref (ad (1, b, 0, 0))), (1, .int k)]) hx hb dX0_passMonths_13 rfl hl (by decide) rfl (fun ls hl => ?_)
  refine y_loop (D := D) (A := wA ad Ks s.heap.size) (ad := ad) (Ks := Ks) (nL := 4) (fun i : Nat => lay tc ad gm dz (pasM I b mcs k i)) (fun i => [(3, .int (nI i)), (2, .int (nI (pasN I b mcs k i))), (1, .int k), (0, .ref (ad (1, b, 0, 0)))]) (fun _ => []) (fun i : Nat => i ≤ n) (fun i => n - i) (fun i hi14 ih14 H locs ls h hl => ?_) 0 (Nat.zero_le _) (h.eq (congrArg (lay tc ad gm dz) rfl)) (lv_sub hl [0, 1, 3, 2] rfl) rfl
  have h : Sx D (wA ad Ks s.heap.size) ad Ks (lay tc ad gm dz (pasM I b mcs k i)) s H locs := h
  have hl : lv_has ls 4 [(3, .int (nI i)), (2, .int (nI (pasN I b mcs k i))), (1, .int k), (0, .ref (ad (1, b, 0, 0)))] := hl
  refine lv_iload_n hx hb dX0_passMonths_14 rfl (lv_at hl 0 rfl) ?_
  refine lv_bipush (v := nI 10) hx hb dX0_passMonths_15 (by decide) ?_
  refine n_icmp_ge (tgt := 50) hx hb (by omega) (by omega) dX0_passMonths_17 (by decide) (fun c_17 => ?_) (fun c_17 => ?_)
  · skip
    have him : n = i := by omega
    subst him
    refine lv_iload_n hx hb dX0_passMonths_50 rfl (lv_at hl 1 rfl) ?_
    exact x_iret X h hr rfl rfl (fun _ _ => rfl) dX0_passMonths_51
  · skip
    refine lv_iload_n hx hb dX0_passMonths_20 rfl (lv_at hl 0 rfl) ?_
    refine lv_aload_n hx hb dX0_passMonths_21 rfl (lv_at hl 3 rfl) ?_
    refine gf_Books_entryCount X h (hL (1, b, 0, 0) ⟨by omega, rfl, rfl⟩) q150 (v := nI n) ((pas_n i).trans hn) dX0_passMonths_22 ?_
    refine n_icmp_ge (tgt := 50) hx hb (by omega) (by omega) dX0_passMonths_25 (by decide) (fun c_25 => ?_) (fun c_25 => ?_)
    · skip
      have him : n = i := by omega
      subst him
      refine lv_iload_n hx hb dX0_passMonths_50 rfl (lv_at hl 1 rfl) ?_
      exact x_iret X h hr rfl rfl (fun _ _ => rfl) dX0_passMonths_51
    · skip
      refine lv_iload_n hx hb dX0_passMonths_28 rfl (lv_at hl 1 rfl) ?_
      refine lv_aload_n hx hb dX0_passMonths_29 rfl (lv_at hl 3 rfl) ?_
      refine gf_Books_entries X h (hL (1, b, 0, 0) ⟨by omega, rfl, rfl⟩) q153 dX0_passMonths_30 ?_
      refine lv_iload_n hx hb dX0_passMonths_33 rfl (lv_at hl 0 rfl) ?_
      refine ra_entries X h (hL (3, b, 0, 0) ⟨by omega, rfl, rfl⟩) (j := i) (by omega) dX0_passMonths_34 ?_
      refine lv_aload_n hx hb dX0_passMonths_35 rfl (lv_at hl 3 rfl) ?_
      refine gf_Books_month X h (hL (1, b, 0, 0) ⟨by omega, rfl, rfl⟩) q148 (v := I (1, b, 0, 0) 0 + k) (pas_m i) dX0_passMonths_36 ?_
      refine x_doneI X h (x_runV X h (k := (4, b, i, 0)) (m_X2_forgetWhereOld (pasM I b mcs k i) b i hL hG (by omega) (by omega) (I (1, b, 0, 0) 0 + k) (mcs i) ((congrFun (pas_4 i) 1).trans (hmk i (by omega)).1) (hmk i (by omega)).2 _) F_X2_forgetWhereOld q658 q659 q660 (hL (4, b, i, 0) ⟨by omega, by omega, rfl⟩) rfl rfl rfl (by decide) (by decide) ⟨Nat.le_refl _, Nat.le_refl _⟩ hl.1 (Nat.le_of_ble_eq_true rfl) dX0_passMonths_39 rfl) (fun H locs h => ?_)
      refine n_iadd hx hb dX0_passMonths_42 ?_
      rw [show nI ((pasN I b mcs k i) + (fwoN (pasM I b mcs k i) b i (mcs i) (I (1, b, 0, 0) 0 + k) 6)) = nI (pasN I b mcs k (i + 1)) from rfl]
      refine lv_istore_n (lv' := [(2, .int (nI (pasN I b mcs k (i + 1)))), (3, .int (nI i)), (1, .int k), (0, .ref (ad (1, b, 0, 0)))]) hx hb dX0_passMonths_43 rfl hl (by decide) rfl (fun ls hl => ?_)
      refine n_iinc (j := i) (n := 1) (lv' := [(3, .int (nI (i + 1))), (2, .int (nI (pasN I b mcs k (i + 1)))), (1, .int k), (0, .ref (ad (1, b, 0, 0)))]) hx hb dX0_passMonths_44 hl (k := 1) rfl (by decide) (by decide) rfl (fun ls hl => ?_)
      refine lv_goto (tgt := 14) hx hb dX0_passMonths_47 (by decide) ?_
      exact ih14 (i + 1) (by omega) (by omega) H locs ls (h.eq (congrArg (lay tc ad gm dz) rfl)) (lv_sub hl [0, 1, 2, 3] rfl)

set_option maxHeartbeats 4000000 in
set_option maxRecDepth 100000 in
theorem m_X0_countClashes {l : Launch} {D : va_G} {tc : TC} {dz : Nat} {ad : KN → Nat} {Ks : List KN} {gm : GM} (I : Mem) (b : Nat) (hL : LV gm Ks) (hG : GMok gm) (hb2 : b < 2) (n : Nat) (mcs : Nat → Nat) (hB : BK gm I b n mcs) (d : Nat) (hd : d < 6) : MI l yX0_countClashes cX0_countClashes 4 (Option.some ClassFile.FieldType.int) 5 D tc dz ad Ks (lay tc ad gm dz I) [.ref (ad (1, b, 0, 0)), .int (nI d)] (nI (bclN I b d mcs n)) (lay tc ad gm dz I) := by
  intro sz
  obtain ⟨hn, hn10, hmk⟩ := id hB
  refine x_ofW (by decide +kernel) (Nat.le_of_ble_eq_true rfl) (fun pp ee s mm bel meth cd ls X hr hin hz h hl => ?_)
  subst hz
  obtain ⟨hx, hb, hmaxL, hown, hts⟩ := id X.1
  have hl : lv_has ls 4 [(0, .ref (ad (1, b, 0, 0))), (1, .int (nI d))] := hl
  refine lv_iconst (v := nI 0) hx hb dX0_countClashes_0 (by decide) ?_
  refine lv_istore_n (lv' := [(2, .int (nI 0)), (0, .ref (ad (1, b, 0, 0))), (1, .int (nI d))]) hx hb dX0_countClashes_1 rfl hl (by decide) rfl (fun ls hl => ?_)
  refine lv_iconst (v := nI 0) hx hb dX0_countClashes_2 (by decide) ?_
  refine lv_istore_n (lv' := [(3, .int (nI 0)), (2, .int (nI 0)), (0, .ref (ad (1, b, 0, 0))), (1, .int (nI d))]) hx hb dX0_countClashes_3 rfl hl (by decide) rfl (fun ls hl => ?_)
  refine y_loop (D := D) (A := wA ad Ks s.heap.size) (ad := ad) (Ks := Ks) (nL := 4) (fun i : Nat => lay tc ad gm dz I) (fun i => [(3, .int (nI i)), (2, .int (nI (bclN I b d mcs i))), (1, .int (nI d)), (0, .ref (ad (1, b, 0, 0)))]) (fun _ => []) (fun i : Nat => i ≤ n) (fun i => n - i) (fun i hi4 ih4 H locs ls h hl => ?_) 0 (Nat.zero_le _) (h.eq (congrArg (lay tc ad gm dz) rfl)) (lv_sub hl [0, 1, 3, 2] rfl) rfl
  have h : Sx D (wA ad Ks s.heap.size) ad Ks (lay tc ad gm dz I) s H locs := h
  have hl : lv_has ls 4 [(3, .int (nI i)), (2, .int (nI (bclN I b d mcs i))), (1, .int (nI d)), (0, .ref (ad (1, b, 0, 0)))] := hl
  refine lv_iload_n hx hb dX0_countClashes_4 rfl (lv_at hl 0 rfl) ?_
  refine lv_bipush (v := nI 10) hx hb dX0_countClashes_5 (by decide) ?_
  refine n_icmp_ge (tgt := 55) hx hb (by omega) (by omega) dX0_countClashes_7 (by decide) (fun c_7 => ?_) (fun c_7 => ?_)
  · skip
    have him : n = i := by omega
    subst him
    refine lv_iload_n hx hb dX0_countClashes_55 rfl (lv_at hl 1 rfl) ?_
    exact x_iret X h hr rfl rfl (fun _ _ => rfl) dX0_countClashes_56
  · skip
    refine lv_iload_n hx hb dX0_countClashes_10 rfl (lv_at hl 0 rfl) ?_
    refine lv_aload_n hx hb dX0_countClashes_11 rfl (lv_at hl 3 rfl) ?_
    refine gf_Books_entryCount X h (hL (1, b, 0, 0) ⟨by omega, rfl, rfl⟩) q150 (v := nI n) hn dX0_countClashes_12 ?_
    refine n_icmp_ge (tgt := 55) hx hb (by omega) (by omega) dX0_countClashes_15 (by decide) (fun c_15 => ?_) (fun c_15 => ?_)
    · skip
      have him : n = i := by omega
      subst him
      refine lv_iload_n hx hb dX0_countClashes_55 rfl (lv_at hl 1 rfl) ?_
      exact x_iret X h hr rfl rfl (fun _ _ => rfl) dX0_countClashes_56
    · skip
      refine lv_aload_n hx hb dX0_countClashes_18 rfl (lv_at hl 3 rfl) ?_
      refine gf_Books_entries X h (hL (1, b, 0, 0) ⟨by omega, rfl, rfl⟩) q153 dX0_countClashes_19 ?_
      refine lv_iload_n hx hb dX0_countClashes_22 rfl (lv_at hl 0 rfl) ?_
      refine ra_entries X h (hL (3, b, 0, 0) ⟨by omega, rfl, rfl⟩) (j := i) (by omega) dX0_countClashes_23 ?_
      refine lv_iload_n hx hb dX0_countClashes_24 rfl (lv_at hl 2 rfl) ?_
      refine x_doneI X h (x_runV X h (k := (4, b, i, 0)) (m_X2_stateOn I b i hL hG (by omega) (by omega) d (by omega) (mcs i) (hmk i (by omega)).1 (hmk i (by omega)).2 _) F_X2_stateOn q280 q281 q282 (hL (4, b, i, 0) ⟨by omega, by omega, rfl⟩) rfl rfl rfl (by decide) (by decide) ⟨Nat.le_refl _, Nat.le_refl _⟩ hl.1 (Nat.le_of_ble_eq_true rfl) dX0_countClashes_25 rfl) (fun H locs h => ?_)
      have hsl := sto_le I b i d (mcs i)
      refine lv_iconst (v := nI 1) hx hb dX0_countClashes_28 (by decide) ?_
      refine n_icmp_ne (tgt := 49) hx hb (by omega) (by omega) dX0_countClashes_29 (by decide) (fun c_29 => ?_) (fun c_29 => ?_)
      · skip
        have hcn : bclN I b d mcs (i + 1) = bclN I b d mcs i := by rw [bclN, if_neg c_29]; rfl
        rw [← hcn] at hl
        refine n_iinc (j := i) (n := 1) (lv' := [(3, .int (nI (i + 1))), (2, .int (nI (bclN I b d mcs (i + 1)))), (1, .int (nI d)), (0, .ref (ad (1, b, 0, 0)))]) hx hb dX0_countClashes_49 hl (k := 0) rfl (by decide) (by decide) rfl (fun ls hl => ?_)
        refine lv_goto (tgt := 4) hx hb dX0_countClashes_52 (by decide) ?_
        exact ih4 (i + 1) (by omega) (by omega) H locs ls (h.eq (congrArg (lay tc ad gm dz) rfl)) (lv_sub hl [0, 1, 2, 3] rfl)
      · skip
        refine lv_iload_n hx hb dX0_countClashes_32 rfl (lv_at hl 1 rfl) ?_
        refine lv_aload_n hx hb dX0_countClashes_33 rfl (lv_at hl 3 rfl) ?_
        refine gf_Books_entries X h (hL (1, b, 0, 0) ⟨by omega, rfl, rfl⟩) q153 dX0_countClashes_34 ?_
        refine lv_iload_n hx hb dX0_countClashes_37 rfl (lv_at hl 0 rfl) ?_
        refine ra_entries X h (hL (3, b, 0, 0) ⟨by omega, rfl, rfl⟩) (j := i) (by omega) dX0_countClashes_38 ?_
        refine gf_Entry_copies X h (hL (4, b, i, 0) ⟨by omega, by omega, rfl⟩) q134 dX0_countClashes_39 ?_
        refine lv_iload_n hx hb dX0_countClashes_42 rfl (lv_at hl 2 rfl) ?_
        refine ra_copies X h (hL (6, b, i, 0) ⟨by omega, by omega, rfl⟩) (j := d) (by omega) dX0_countClashes_43 ?_
        refine x_doneI X h (x_runV X h (k := (9, b, i, d)) (m_X1_countClashes I b i d hL (by omega) (by omega) (by omega)  _) F_X1_countClashes q319 q320 q321 (hL (9, b, i, d) ⟨by omega, by omega, by omega⟩) rfl rfl rfl (by decide) (by decide) ⟨Nat.le_refl _, Nat.le_refl _⟩ hl.1 (Nat.le_of_ble_eq_true rfl) dX0_countClashes_44 rfl) (fun H locs h => ?_)
        refine n_iadd hx hb dX0_countClashes_47 ?_
        rw [show nI ((bclN I b d mcs i) + (ccl (I (10, b, i, d)))) = nI (bclN I b d mcs (i + 1)) from (by rw [bclN, if_pos c_29])]
        refine lv_istore_n (lv' := [(2, .int (nI (bclN I b d mcs (i + 1)))), (3, .int (nI i)), (1, .int (nI d)), (0, .ref (ad (1, b, 0, 0)))]) hx hb dX0_countClashes_48 rfl hl (by decide) rfl (fun ls hl => ?_)
        refine n_iinc (j := i) (n := 1) (lv' := [(3, .int (nI (i + 1))), (2, .int (nI (bclN I b d mcs (i + 1)))), (1, .int (nI d)), (0, .ref (ad (1, b, 0, 0)))]) hx hb dX0_countClashes_49 hl (k := 1) rfl (by decide) (by decide) rfl (fun ls hl => ?_)
        refine lv_goto (tgt := 4) hx hb dX0_countClashes_52 (by decide) ?_
        exact ih4 (i + 1) (by omega) (by omega) H locs ls (h.eq (congrArg (lay tc ad gm dz) rfl)) (lv_sub hl [0, 1, 2, 3] rfl)

set_option maxHeartbeats 4000000 in
set_option maxRecDepth 100000 in
theorem m_J6_bitCount_0f7a4 {l : Launch} {D : va_G} {tc : TC} {dz : Nat} {ad : KN → Nat} {Ks : List KN} {gm : GM} (I : Mem) (x : Int32) : MI l yJ6_bitCount_0f7a4 cJ6_bitCount_0f7a4 1 (Option.some ClassFile.FieldType.int) 0 D tc dz ad Ks (lay tc ad gm dz I) [.int x] (bcI x) (lay tc ad gm dz I) := by
  intro sz
  refine x_ofW (by decide +kernel) (Nat.le_of_ble_eq_true rfl) (fun pp ee s mm bel meth cd ls X hr hin hz h hl => ?_)
  subst hz
  obtain ⟨hx, hb, hmaxL, hown, hts⟩ := id X.1
  have hl : lv_has ls 1 [(0, .int x)] := hl
  refine lv_iload_n hx hb dJ6_bitCount_0f7a4_0 rfl (lv_at hl 0 rfl) ?_
  refine lv_iload_n hx hb dJ6_bitCount_0f7a4_1 rfl (lv_at hl 0 rfl) ?_
  refine lv_iconst (v := nI 1) hx hb dJ6_bitCount_0f7a4_2 (by decide) ?_
  refine lv_iushr (v := us x 1) hx hb dJ6_bitCount_0f7a4_3 rfl ?_
  refine lv_ldcw hx hb hown (hts _ q353) dJ6_bitCount_0f7a4_4 ?_
  refine lv_iand hx hb dJ6_bitCount_0f7a4_7 ?_
  refine lv_isub hx hb dJ6_bitCount_0f7a4_8 ?_
  rw [show x - ((us x 1) &&& 1431655765) = bc1 x from rfl]
  refine lv_istore_n (lv' := [(0, .int (bc1 x))]) hx hb dJ6_bitCount_0f7a4_9 rfl hl (by decide) rfl (fun ls hl => ?_)
  refine lv_iload_n hx hb dJ6_bitCount_0f7a4_10 rfl (lv_at hl 0 rfl) ?_
  refine lv_ldcw hx hb hown (hts _ q354) dJ6_bitCount_0f7a4_11 ?_
  refine lv_iand hx hb dJ6_bitCount_0f7a4_14 ?_
  refine lv_iload_n hx hb dJ6_bitCount_0f7a4_15 rfl (lv_at hl 0 rfl) ?_
  refine lv_iconst (v := nI 2) hx hb dJ6_bitCount_0f7a4_16 (by decide) ?_
  refine lv_iushr (v := us (bc1 x) 2) hx hb dJ6_bitCount_0f7a4_17 rfl ?_
  refine lv_ldcw hx hb hown (hts _ q354) dJ6_bitCount_0f7a4_18 ?_
  refine lv_iand hx hb dJ6_bitCount_0f7a4_21 ?_
  refine lv_iadd hx hb dJ6_bitCount_0f7a4_22 ?_
  rw [show ((bc1 x) &&& 858993459) + ((us (bc1 x) 2) &&& 858993459) = bc2 x from rfl]
  refine lv_istore_n (lv' := [(0, .int (bc2 x))]) hx hb dJ6_bitCount_0f7a4_23 rfl hl (by decide) rfl (fun ls hl => ?_)
  refine lv_iload_n hx hb dJ6_bitCount_0f7a4_24 rfl (lv_at hl 0 rfl) ?_
  refine lv_iload_n hx hb dJ6_bitCount_0f7a4_25 rfl (lv_at hl 0 rfl) ?_
  refine lv_iconst (v := nI 4) hx hb dJ6_bitCount_0f7a4_26 (by decide) ?_
  refine lv_iushr (v := us (bc2 x) 4) hx hb dJ6_bitCount_0f7a4_27 rfl ?_
  refine lv_iadd hx hb dJ6_bitCount_0f7a4_28 ?_
  refine lv_ldcw hx hb hown (hts _ q355) dJ6_bitCount_0f7a4_29 ?_
  refine lv_iand hx hb dJ6_bitCount_0f7a4_32 ?_
  rw [show ((bc2 x) + (us (bc2 x) 4)) &&& 252645135 = bc3 x from rfl]
  refine lv_istore_n (lv' := [(0, .int (bc3 x))]) hx hb dJ6_bitCount_0f7a4_33 rfl hl (by decide) rfl (fun ls hl => ?_)
  refine lv_iload_n hx hb dJ6_bitCount_0f7a4_34 rfl (lv_at hl 0 rfl) ?_
  refine lv_iload_n hx hb dJ6_bitCount_0f7a4_35 rfl (lv_at hl 0 rfl) ?_
  refine lv_bipush (v := nI 8) hx hb dJ6_bitCount_0f7a4_36 (by decide) ?_
  refine lv_iushr (v := us (bc3 x) 8) hx hb dJ6_bitCount_0f7a4_38 rfl ?_
  refine lv_iadd hx hb dJ6_bitCount_0f7a4_39 ?_
  rw [show (bc3 x) + (us (bc3 x) 8) = bc4 x from rfl]
  refine lv_istore_n (lv' := [(0, .int (bc4 x))]) hx hb dJ6_bitCount_0f7a4_40 rfl hl (by decide) rfl (fun ls hl => ?_)
  refine lv_iload_n hx hb dJ6_bitCount_0f7a4_41 rfl (lv_at hl 0 rfl) ?_
  refine lv_iload_n hx hb dJ6_bitCount_0f7a4_42 rfl (lv_at hl 0 rfl) ?_
  refine lv_bipush (v := nI 16) hx hb dJ6_bitCount_0f7a4_43 (by decide) ?_
  refine lv_iushr (v := us (bc4 x) 16) hx hb dJ6_bitCount_0f7a4_45 rfl ?_
  refine lv_iadd hx hb dJ6_bitCount_0f7a4_46 ?_
  rw [show (bc4 x) + (us (bc4 x) 16) = bc5 x from rfl]
  refine lv_istore_n (lv' := [(0, .int (bc5 x))]) hx hb dJ6_bitCount_0f7a4_47 rfl hl (by decide) rfl (fun ls hl => ?_)
  refine lv_iload_n hx hb dJ6_bitCount_0f7a4_48 rfl (lv_at hl 0 rfl) ?_
  refine lv_bipush (v := nI 63) hx hb dJ6_bitCount_0f7a4_49 (by decide) ?_
  refine lv_iand hx hb dJ6_bitCount_0f7a4_51 ?_
  rw [show (bc5 x) &&& (nI 63) = bcI x from rfl]
  exact x_iret X h hr rfl rfl (fun _ _ => rfl) dJ6_bitCount_0f7a4_52

set_option maxHeartbeats 4000000 in
set_option maxRecDepth 100000 in
theorem m_X0_countCompared {l : Launch} {D : va_G} {tc : TC} {dz : Nat} {ad : KN → Nat} {Ks : List KN} {gm : GM} (I : Mem) (b : Nat) (hL : LV gm Ks) (hG : GMok gm) (hb2 : b < 2) (n : Nat) (mcs : Nat → Nat) (hB : BK gm I b n mcs) (d d2 : Nat) (hd : d < 6) (hd2 : d2 < 6) : MI l yX0_countCompared cX0_countCompared 5 (Option.some ClassFile.FieldType.int) 6 D tc dz ad Ks (lay tc ad gm dz I) [.ref (ad (1, b, 0, 0)), .int (nI d), .int (nI d2)] (bcmI I b d d2 mcs n) (lay tc ad gm dz I) := by
  intro sz
  obtain ⟨hn, hn10, hmk⟩ := id hB
  refine x_ofW (by decide +kernel) (Nat.le_of_ble_eq_true rfl) (fun pp ee s mm bel meth cd ls X hr hin hz h hl => ?_)
  subst hz
  obtain ⟨hx, hb, hmaxL, hown, hts⟩ := id X.1
  have hl : lv_has ls 5 [(0, .ref (ad (1, b, 0, 0))), (1, .int (nI d)), (2, .int (nI d2))] := hl
  refine lv_iconst (v := nI 0) hx hb dX0_countCompared_0 (by decide) ?_
  refine lv_istore_n (lv' := [(3, .int (nI 0)), (0, .ref (ad (1, b, 0, 0))), (1, .int (nI d)), (2, .int (nI d2))]) hx hb dX0_countCompared_1 rfl hl (by decide) rfl (fun ls hl => ?_)
  refine lv_iconst (v := nI 0) hx hb dX0_countCompared_2 (by decide) ?_
  refine lv_istore (lv' := [(4, .int (nI 0)), (3, .int (nI 0)), (0, .ref (ad (1, b, 0, 0))), (1, .int (nI d)), (2, .int (nI d2))]) hx hb dX0_countCompared_3 hl (by decide) rfl (fun ls hl => ?_)
  refine y_loop (D := D) (A := wA ad Ks s.heap.size) (ad := ad) (Ks := Ks) (nL := 5) (fun i : Nat => lay tc ad gm dz I) (fun i => [(4, .int (nI i)), (3, .int (bcmI I b d d2 mcs i)), (2, .int (nI d2)), (1, .int (nI d)), (0, .ref (ad (1, b, 0, 0)))]) (fun _ => []) (fun i : Nat => i ≤ n) (fun i => n - i) (fun i hi5 ih5 H locs ls h hl => ?_) 0 (Nat.zero_le _) (h.eq (congrArg (lay tc ad gm dz) rfl)) (lv_sub hl [0, 1, 4, 3, 2] rfl) rfl
  have h : Sx D (wA ad Ks s.heap.size) ad Ks (lay tc ad gm dz I) s H locs := h
  have hl : lv_has ls 5 [(4, .int (nI i)), (3, .int (bcmI I b d d2 mcs i)), (2, .int (nI d2)), (1, .int (nI d)), (0, .ref (ad (1, b, 0, 0)))] := hl
  refine lv_iload hx hb dX0_countCompared_5 (lv_at hl 0 rfl) ?_
  refine lv_bipush (v := nI 10) hx hb dX0_countCompared_7 (by decide) ?_
  refine n_icmp_ge (tgt := 45) hx hb (by omega) (by omega) dX0_countCompared_9 (by decide) (fun c_9 => ?_) (fun c_9 => ?_)
  · skip
    have him : n = i := by omega
    subst him
    refine lv_iload_n hx hb dX0_countCompared_45 rfl (lv_at hl 1 rfl) ?_
    exact x_iret X h hr rfl rfl (fun _ _ => rfl) dX0_countCompared_46
  · skip
    refine lv_iload hx hb dX0_countCompared_12 (lv_at hl 0 rfl) ?_
    refine lv_aload_n hx hb dX0_countCompared_14 rfl (lv_at hl 4 rfl) ?_
    refine gf_Books_entryCount X h (hL (1, b, 0, 0) ⟨by omega, rfl, rfl⟩) q150 (v := nI n) hn dX0_countCompared_15 ?_
    refine n_icmp_ge (tgt := 45) hx hb (by omega) (by omega) dX0_countCompared_18 (by decide) (fun c_18 => ?_) (fun c_18 => ?_)
    · skip
      have him : n = i := by omega
      subst him
      refine lv_iload_n hx hb dX0_countCompared_45 rfl (lv_at hl 1 rfl) ?_
      exact x_iret X h hr rfl rfl (fun _ _ => rfl) dX0_countCompared_46
    · skip
      refine lv_iload_n hx hb dX0_countCompared_21 rfl (lv_at hl 1 rfl) ?_
      refine lv_aload_n hx hb dX0_countCompared_22 rfl (lv_at hl 4 rfl) ?_
      refine gf_Books_entries X h (hL (1, b, 0, 0) ⟨by omega, rfl, rfl⟩) q153 dX0_countCompared_23 ?_
      refine lv_iload hx hb dX0_countCompared_26 (lv_at hl 0 rfl) ?_
      refine ra_entries X h (hL (3, b, 0, 0) ⟨by omega, rfl, rfl⟩) (j := i) (by omega) dX0_countCompared_28 ?_
      refine lv_iload_n hx hb dX0_countCompared_29 rfl (lv_at hl 3 rfl) ?_
      refine lv_iload_n hx hb dX0_countCompared_30 rfl (lv_at hl 2 rfl) ?_
      refine x_doneI X h (x_runV X h (k := (4, b, i, 0)) (m_X2_comparedFields I b i hL hG (by omega) (by omega) d d2 (by omega) (by omega) (mcs i) (hmk i (by omega)).1 (hmk i (by omega)).2 _) F_X2_comparedFields q338 q339 q340 (hL (4, b, i, 0) ⟨by omega, by omega, rfl⟩) rfl rfl rfl (by decide) (by decide) ⟨Nat.le_refl _, Nat.le_refl _⟩ hl.1 (Nat.le_of_ble_eq_true rfl) dX0_countCompared_31 rfl) (fun H locs h => ?_)
      refine x_doneI X h (x_runS X h (m_J6_bitCount_0f7a4 I (cmpF I b i d d2 (mcs i)) _) F_J6_bitCount_0f7a4 q350 q351 rfl (by decide) (by decide) ⟨Nat.le_refl _, Nat.le_refl _⟩ hl.1 (Nat.le_of_ble_eq_true rfl) dX0_countCompared_34 rfl) (fun H locs h => ?_)
      refine lv_iadd hx hb dX0_countCompared_37 ?_
      rw [show (bcmI I b d d2 mcs i) + (bcI (cmpF I b i d d2 (mcs i))) = bcmI I b d d2 mcs (i + 1) from rfl]
      refine lv_istore_n (lv' := [(3, .int (bcmI I b d d2 mcs (i + 1))), (4, .int (nI i)), (2, .int (nI d2)), (1, .int (nI d)), (0, .ref (ad (1, b, 0, 0)))]) hx hb dX0_countCompared_38 rfl hl (by decide) rfl (fun ls hl => ?_)
      refine n_iinc (j := i) (n := 1) (lv' := [(4, .int (nI (i + 1))), (3, .int (bcmI I b d d2 mcs (i + 1))), (2, .int (nI d2)), (1, .int (nI d)), (0, .ref (ad (1, b, 0, 0)))]) hx hb dX0_countCompared_39 hl (k := 1) rfl (by decide) (by decide) rfl (fun ls hl => ?_)
      refine lv_goto (tgt := 5) hx hb dX0_countCompared_42 (by decide) ?_
      exact ih5 (i + 1) (by omega) (by omega) H locs ls (h.eq (congrArg (lay tc ad gm dz) rfl)) (lv_sub hl [0, 1, 2, 3, 4] rfl)

set_option maxHeartbeats 4000000 in
set_option maxRecDepth 100000 in
theorem m_X0_countSame {l : Launch} {D : va_G} {tc : TC} {dz : Nat} {ad : KN → Nat} {Ks : List KN} {gm : GM} (I : Mem) (b : Nat) (hL : LV gm Ks) (hG : GMok gm) (hb2 : b < 2) (n : Nat) (mcs : Nat → Nat) (hB : BK gm I b n mcs) (d d2 : Nat) (hd : d < 6) (hd2 : d2 < 6) : MI l yX0_countSame cX0_countSame 5 (Option.some ClassFile.FieldType.int) 7 D tc dz ad Ks (lay tc ad gm dz I) [.ref (ad (1, b, 0, 0)), .int (nI d), .int (nI d2)] (nI (bsmN I b d d2 mcs n)) (lay tc ad gm dz I) := by
  intro sz
  obtain ⟨hn, hn10, hmk⟩ := id hB
  refine x_ofW (by decide +kernel) (Nat.le_of_ble_eq_true rfl) (fun pp ee s mm bel meth cd ls X hr hin hz h hl => ?_)
  subst hz
  obtain ⟨hx, hb, hmaxL, hown, hts⟩ := id X.1
  have hl : lv_has ls 5 [(0, .ref (ad (1, b, 0, 0))), (1, .int (nI d)), (2, .int (nI d2))] := hl
  refine lv_iconst (v := nI 0) hx hb dX0_countSame_0 (by decide) ?_
  refine lv_istore_n (lv' := [(3, .int (nI 0)), (0, .ref (ad (1, b, 0, 0))), (1, .int (nI d)), (2, .int (nI d2))]) hx hb dX0_countSame_1 rfl hl (by decide) rfl (fun ls hl => ?_)
  refine lv_iconst (v := nI 0) hx hb dX0_countSame_2 (by decide) ?_
  refine lv_istore (lv' := [(4, .int (nI 0)), (3, .int (nI 0)), (0, .ref (ad (1, b, 0, 0))), (1, .int (nI d)), (2, .int (nI d2))]) hx hb dX0_countSame_3 hl (by decide) rfl (fun ls hl => ?_)
  refine y_loop (D := D) (A := wA ad Ks s.heap.size) (ad := ad) (Ks := Ks) (nL := 5) (fun i : Nat => lay tc ad gm dz I) (fun i => [(4, .int (nI i)), (3, .int (nI (bsmN I b d d2 mcs i))), (2, .int (nI d2)), (1, .int (nI d)), (0, .ref (ad (1, b, 0, 0)))]) (fun _ => []) (fun i : Nat => i ≤ n) (fun i => n - i) (fun i hi5 ih5 H locs ls h hl => ?_) 0 (Nat.zero_le _) (h.eq (congrArg (lay tc ad gm dz) rfl)) (lv_sub hl [0, 1, 4, 3, 2] rfl) rfl
  have h : Sx D (wA ad Ks s.heap.size) ad Ks (lay tc ad gm dz I) s H locs := h
  have hl : lv_has ls 5 [(4, .int (nI i)), (3, .int (nI (bsmN I b d d2 mcs i))), (2, .int (nI d2)), (1, .int (nI d)), (0, .ref (ad (1, b, 0, 0)))] := hl
  refine lv_iload hx hb dX0_countSame_5 (lv_at hl 0 rfl) ?_
  refine lv_bipush (v := nI 10) hx hb dX0_countSame_7 (by decide) ?_
  refine n_icmp_ge (tgt := 42) hx hb (by omega) (by omega) dX0_countSame_9 (by decide) (fun c_9 => ?_) (fun c_9 => ?_)
  · skip
    have him : n = i := by omega
    subst him
    refine lv_iload_n hx hb dX0_countSame_42 rfl (lv_at hl 1 rfl) ?_
    exact x_iret X h hr rfl rfl (fun _ _ => rfl) dX0_countSame_43
  · skip
    refine lv_iload hx hb dX0_countSame_12 (lv_at hl 0 rfl) ?_
    refine lv_aload_n hx hb dX0_countSame_14 rfl (lv_at hl 4 rfl) ?_
    refine gf_Books_entryCount X h (hL (1, b, 0, 0) ⟨by omega, rfl, rfl⟩) q150 (v := nI n) hn dX0_countSame_15 ?_
    refine n_icmp_ge (tgt := 42) hx hb (by omega) (by omega) dX0_countSame_18 (by decide) (fun c_18 => ?_) (fun c_18 => ?_)
    · skip
      have him : n = i := by omega
      subst him
      refine lv_iload_n hx hb dX0_countSame_42 rfl (lv_at hl 1 rfl) ?_
      exact x_iret X h hr rfl rfl (fun _ _ => rfl) dX0_countSame_43
    · skip
      refine lv_iload_n hx hb dX0_countSame_21 rfl (lv_at hl 1 rfl) ?_
      refine lv_aload_n hx hb dX0_countSame_22 rfl (lv_at hl 4 rfl) ?_
      refine gf_Books_entries X h (hL (1, b, 0, 0) ⟨by omega, rfl, rfl⟩) q153 dX0_countSame_23 ?_
      refine lv_iload hx hb dX0_countSame_26 (lv_at hl 0 rfl) ?_
      refine ra_entries X h (hL (3, b, 0, 0) ⟨by omega, rfl, rfl⟩) (j := i) (by omega) dX0_countSame_28 ?_
      refine lv_iload_n hx hb dX0_countSame_29 rfl (lv_at hl 3 rfl) ?_
      refine lv_iload_n hx hb dX0_countSame_30 rfl (lv_at hl 2 rfl) ?_
      refine x_doneI X h (x_runV X h (k := (4, b, i, 0)) (m_X2_countSame I b i hL hG (by omega) (by omega) d d2 (by omega) (by omega) (mcs i) (hmk i (by omega)).1 (hmk i (by omega)).2 _) F_X2_countSame q360 q361 q362 (hL (4, b, i, 0) ⟨by omega, by omega, rfl⟩) rfl rfl rfl (by decide) (by decide) ⟨Nat.le_refl _, Nat.le_refl _⟩ hl.1 (Nat.le_of_ble_eq_true rfl) dX0_countSame_31 rfl) (fun H locs h => ?_)
      refine n_iadd hx hb dX0_countSame_34 ?_
      rw [show nI ((bsmN I b d d2 mcs i) + (cnS I b i d d2 (mcs i))) = nI (bsmN I b d d2 mcs (i + 1)) from rfl]
      refine lv_istore_n (lv' := [(3, .int (nI (bsmN I b d d2 mcs (i + 1)))), (4, .int (nI i)), (2, .int (nI d2)), (1, .int (nI d)), (0, .ref (ad (1, b, 0, 0)))]) hx hb dX0_countSame_35 rfl hl (by decide) rfl (fun ls hl => ?_)
      refine n_iinc (j := i) (n := 1) (lv' := [(4, .int (nI (i + 1))), (3, .int (nI (bsmN I b d d2 mcs (i + 1)))), (2, .int (nI d2)), (1, .int (nI d)), (0, .ref (ad (1, b, 0, 0)))]) hx hb dX0_countSame_36 hl (k := 1) rfl (by decide) (by decide) rfl (fun ls hl => ?_)
      refine lv_goto (tgt := 5) hx hb dX0_countSame_39 (by decide) ?_
      exact ih5 (i + 1) (by omega) (by omega) H locs ls (h.eq (congrArg (lay tc ad gm dz) rfl)) (lv_sub hl [0, 1, 2, 3, 4] rfl)

set_option maxHeartbeats 4000000 in
set_option maxRecDepth 100000 in
theorem m_X0_clear {l : Launch} {D : va_G} {tc : TC} {dz : Nat} {ad : KN → Nat} {Ks : List KN} {gm : GM} (I : Mem) (b : Nat) (hL : LV gm Ks) (hG : GMok gm) (hb2 : b < 2) : MV l yX0_clear cX0_clear 2 4 D tc dz ad Ks (lay tc ad gm dz I) [.ref (ad (1, b, 0, 0))] (lay tc ad gm dz (bcrM I b 10)) := by
  intro sz
  refine x_ofW (by decide +kernel) (Nat.le_of_ble_eq_true rfl) (fun pp ee s mm bel meth cd ls X hr hin hz h hl => ?_)
  subst hz
  obtain ⟨hx, hb, hmaxL, hown, hts⟩ := id X.1
  have hl : lv_has ls 2 [(0, .ref (ad (1, b, 0, 0)))] := hl
  refine lv_aload_n hx hb dX0_clear_0 rfl (lv_at hl 0 rfl) ?_
  refine lv_iconst (v := nI 0) hx hb dX0_clear_1 (by decide) ?_
  refine pf_Books_month X h (hL (1, b, 0, 0) ⟨by omega, rfl, rfl⟩) q148 dX0_clear_2 (fun H locs h => ?_)
  refine lv_aload_n hx hb dX0_clear_5 rfl (lv_at hl 0 rfl) ?_
  refine lv_iconst (v := nI 0) hx hb dX0_clear_6 (by decide) ?_
  refine pf_Books_entryCount X h (hL (1, b, 0, 0) ⟨by omega, rfl, rfl⟩) q150 dX0_clear_7 (fun H locs h => ?_)
  have h := h.eq (congrArg (lay tc ad gm dz) (show (sset (sset I (1, b, 0, 0) (upd (I (1, b, 0, 0)) 0 (nI 0))) (1, b, 0, 0) (upd ((sset I (1, b, 0, 0) (upd (I (1, b, 0, 0)) 0 (nI 0))) (1, b, 0, 0)) 1 (nI 0))) = (sset I (1, b, 0, 0) (upd (upd (I (1, b, 0, 0)) 0 0) 1 0)) from (by rw [sset_sset, sset_eq]; rfl)))
  refine lv_iconst (v := nI 0) hx hb dX0_clear_10 (by decide) ?_
  refine lv_istore_n (lv' := [(1, .int (nI 0)), (0, .ref (ad (1, b, 0, 0)))]) hx hb dX0_clear_11 rfl hl (by decide) rfl (fun ls hl => ?_)
  refine y_loop (D := D) (A := wA ad Ks s.heap.size) (ad := ad) (Ks := Ks) (nL := 2) (fun i : Nat => lay tc ad gm dz (sset (sset I (1, b, 0, 0) (upd (upd (I (1, b, 0, 0)) 0 0) 1 0)) (2, b, 0, 0) (pf i (fun _ => 0) ((sset I (1, b, 0, 0) (upd (upd (I (1, b, 0, 0)) 0 0) 1 0)) (2, b, 0, 0))))) (fun i => [(1, .int (nI i)), (0, .ref (ad (1, b, 0, 0)))]) (fun _ => []) (fun i : Nat => i ≤ 6) (fun i => 6 - i) (fun i hi12 ih12 H locs ls h hl => ?_) 0 (Nat.zero_le _) (h.eq (congrArg (lay tc ad gm dz) (pf_at0 (sset I (1, b, 0, 0) (upd (upd (I (1, b, 0, 0)) 0 0) 1 0)) (2, b, 0, 0) _))) (lv_sub hl [0, 1] rfl) rfl
  have h : Sx D (wA ad Ks s.heap.size) ad Ks (lay tc ad gm dz (sset (sset I (1, b, 0, 0) (upd (upd (I (1, b, 0, 0)) 0 0) 1 0)) (2, b, 0, 0) (pf i (fun _ => 0) ((sset I (1, b, 0, 0) (upd (upd (I (1, b, 0, 0)) 0 0) 1 0)) (2, b, 0, 0))))) s H locs := h
  have hl : lv_has ls 2 [(1, .int (nI i)), (0, .ref (ad (1, b, 0, 0)))] := hl
  refine lv_iload_n hx hb dX0_clear_12 rfl (lv_at hl 0 rfl) ?_
  refine lv_bipush (v := nI 6) hx hb dX0_clear_13 (by decide) ?_
  refine n_icmp_ge (tgt := 31) hx hb (by omega) (by omega) dX0_clear_15 (by decide) (fun c_15 => ?_) (fun c_15 => ?_)
  · skip
    obtain rfl : i = 6 := by omega
    have h := h.pfEnd (fun _ => rfl)
    have h : Sx D (wA ad Ks s.heap.size) ad Ks (lay tc ad gm dz (bcrM I b 0)) s H locs := h
    refine lv_iconst (v := nI 0) hx hb dX0_clear_31 (by decide) ?_
    refine lv_istore_n (lv' := [(1, .int (nI 0)), (0, .ref (ad (1, b, 0, 0)))]) hx hb dX0_clear_32 rfl hl (by decide) rfl (fun ls hl => ?_)
    refine y_loop (D := D) (A := wA ad Ks s.heap.size) (ad := ad) (Ks := Ks) (nL := 2) (fun i : Nat => lay tc ad gm dz (bcrM I b i)) (fun i => [(1, .int (nI i)), (0, .ref (ad (1, b, 0, 0)))]) (fun _ => []) (fun i : Nat => i ≤ 10) (fun i => 10 - i) (fun i hi33 ih33 H locs ls h hl => ?_) 0 (Nat.zero_le _) (h.eq (congrArg (lay tc ad gm dz) rfl)) (lv_sub hl [0, 1] rfl) rfl
    have h : Sx D (wA ad Ks s.heap.size) ad Ks (lay tc ad gm dz (bcrM I b i)) s H locs := h
    have hl : lv_has ls 2 [(1, .int (nI i)), (0, .ref (ad (1, b, 0, 0)))] := hl
    refine lv_iload_n hx hb dX0_clear_33 rfl (lv_at hl 0 rfl) ?_
    refine lv_bipush (v := nI 10) hx hb dX0_clear_34 (by decide) ?_
    refine n_icmp_ge (tgt := 54) hx hb (by omega) (by omega) dX0_clear_36 (by decide) (fun c_36 => ?_) (fun c_36 => ?_)
    · skip
      obtain rfl : i = 10 := by omega
      exact x_vret X h hr (fun _ _ => rfl) dX0_clear_54
    · skip
      refine lv_aload_n hx hb dX0_clear_39 rfl (lv_at hl 1 rfl) ?_
      refine gf_Books_entries X h (hL (1, b, 0, 0) ⟨by omega, rfl, rfl⟩) q153 dX0_clear_40 ?_
      refine lv_iload_n hx hb dX0_clear_43 rfl (lv_at hl 0 rfl) ?_
      refine ra_entries X h (hL (3, b, 0, 0) ⟨by omega, rfl, rfl⟩) (j := i) (by omega) dX0_clear_44 ?_
      refine x_doneV X h (x_runV X h (k := (4, b, i, 0)) (m_X2_clear (bcrM I b i) b i hL hG (by omega) (by omega)  _) F_X2_clear q696 q697 q698 (hL (4, b, i, 0) ⟨by omega, by omega, rfl⟩) rfl rfl rfl (by decide) (by decide) ⟨Nat.le_refl _, Nat.le_refl _⟩ hl.1 (Nat.le_of_ble_eq_true rfl) dX0_clear_45 rfl) (fun H locs h => ?_)
      refine n_iinc (j := i) (n := 1) (lv' := [(1, .int (nI (i + 1))), (0, .ref (ad (1, b, 0, 0)))]) hx hb dX0_clear_48 hl (k := 0) rfl (by decide) (by decide) rfl (fun ls hl => ?_)
      refine lv_goto (tgt := 33) hx hb dX0_clear_51 (by decide) ?_
      exact ih33 (i + 1) (by omega) (by omega) H locs ls (h.eq (congrArg (lay tc ad gm dz) rfl)) (lv_sub hl [0, 1] rfl)
  · skip
    refine lv_aload_n hx hb dX0_clear_18 rfl (lv_at hl 1 rfl) ?_
    refine gf_Books_actCounts X h (hL (1, b, 0, 0) ⟨by omega, rfl, rfl⟩) q152 dX0_clear_19 ?_
    refine lv_iload_n hx hb dX0_clear_22 rfl (lv_at hl 0 rfl) ?_
    refine lv_iconst (v := nI 0) hx hb dX0_clear_23 (by decide) ?_
    refine y_ast X h (fun _ => rfl) (by decide) (hL (2, b, 0, 0) ⟨by omega, rfl, rfl⟩) (by omega) dX0_clear_24 (fun H locs h => ?_)
    refine n_iinc (j := i) (n := 1) (lv' := [(1, .int (nI (i + 1))), (0, .ref (ad (1, b, 0, 0)))]) hx hb dX0_clear_25 hl (k := 0) rfl (by decide) (by decide) rfl (fun ls hl => ?_)
    refine lv_goto (tgt := 12) hx hb dX0_clear_28 (by decide) ?_
    exact ih12 (i + 1) (by omega) (by omega) H locs ls (h.eq (congrArg (lay tc ad gm dz) (pf_step (sset I (1, b, 0, 0) (upd (upd (I (1, b, 0, 0)) 0 0) 1 0)) (2, b, 0, 0) rfl))) (lv_sub hl [0, 1] rfl)
