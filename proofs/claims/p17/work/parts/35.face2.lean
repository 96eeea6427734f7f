set_option maxHeartbeats 4000000 in
set_option maxRecDepth 100000 in
theorem m_X6_entry {l : Launch} {D : va_G} {tc : TC} {dz : Nat} {ad : KN → Nat} {Ks : List KN} {gm : GM} (I : Mem) (hL : LV gm Ks) (hG : GMok gm) (n : Nat) (mcs : Nat → Nat) (hB : BK gm I 0 n mcs) (z : Nat) (hz5 : I (20, 0, 0, 0) 0 = nI z) (hz6 : z < 512) (d : Nat) (hd : d < 6) (hn9 : n < 10) : MI l yX6_entry cX6_entry 2 (Option.some ClassFile.FieldType.int) 9 D tc dz ad Ks (lay tc ad gm dz I) [.ref (ad (0, 0, 0, 0)), .int (nI d)] (nI n) (lay tc ad gm dz (mkeM (jwM I z (nI 0) (nI d) (nI 0) (nI 0) (nI 0)) 0 d n)) := by
  intro sz
  obtain ⟨hn, hn10, hmk⟩ := id hB
  refine x_ofW (by decide +kernel) (Nat.le_of_ble_eq_true rfl) (fun pp ee s mm bel meth cd ls X hr hin hz h hl => ?_)
  subst hz
  obtain ⟨hx, hb, hmaxL, hown, hts⟩ := id X.1
  have hl : lv_has ls 2 [(0, .ref (ad (0, 0, 0, 0))), (1, .int (nI d))] := hl
  refine lv_iload_n hx hb dX6_entry_0 rfl (lv_at hl 1 rfl) ?_
  refine x_doneV X h (x_runS X h (m_X6_requireDevice I d (by omega) _) F_X6_requireDevice q202 q203 rfl (by decide) (by decide) ⟨Nat.le_refl _, Nat.le_refl _⟩ hl.1 (Nat.le_of_ble_eq_true rfl) dX6_entry_1 rfl) (fun H locs h => ?_)
  refine lv_aload_n hx hb dX6_entry_4 rfl (lv_at hl 0 rfl) ?_
  refine gf_BraidBook_books X h (hL (0, 0, 0, 0) ⟨rfl, rfl, rfl⟩) q188 dX6_entry_5 ?_
  refine gf_Books_entryCount X h (hL (1, 0, 0, 0) ⟨by omega, rfl, rfl⟩) q151 (v := nI n) hn dX6_entry_8 ?_
  refine lv_bipush (v := nI 10) hx hb dX6_entry_11 (by decide) ?_
  refine n_icmp_lt (tgt := 26) hx hb (by omega) (by omega) dX6_entry_13 (by decide) (fun c_13 => ?_) (fun c_13 => ?_)
  · skip
    refine lv_aload_n hx hb dX6_entry_26 rfl (lv_at hl 0 rfl) ?_
    refine x_doneV X h (x_runV X h (k := (0, 0, 0, 0)) (m_X6_requireRoomInJournal I hL z hz5 hz6 _) F_X6_requireRoomInJournal q402 q404 q1 (hL (0, 0, 0, 0) ⟨rfl, rfl, rfl⟩) rfl rfl rfl (by decide) (by decide) ⟨Nat.le_refl _, Nat.le_refl _⟩ hl.1 (Nat.le_of_ble_eq_true rfl) dX6_entry_27 rfl) (fun H locs h => ?_)
    refine lv_aload_n hx hb dX6_entry_30 rfl (lv_at hl 0 rfl) ?_
    refine gf_BraidBook_journal X h (hL (0, 0, 0, 0) ⟨rfl, rfl, rfl⟩) q190 dX6_entry_31 ?_
    refine lv_iconst (v := nI 0) hx hb dX6_entry_34 (by decide) ?_
    refine lv_iload_n hx hb dX6_entry_35 rfl (lv_at hl 1 rfl) ?_
    refine lv_iconst (v := nI 0) hx hb dX6_entry_36 (by decide) ?_
    refine lv_iconst (v := nI 0) hx hb dX6_entry_37 (by decide) ?_
    refine lv_iconst (v := nI 0) hx hb dX6_entry_38 (by decide) ?_
    refine x_doneV X h (x_runV X h (k := (20, 0, 0, 0)) (m_X3_write I hL z hz5 hz6 (nI 0) (nI d) (nI 0) (nI 0) (nI 0) _) F_X3_write q411 q412 q413 (hL (20, 0, 0, 0) ⟨by decide, rfl, rfl, rfl⟩) rfl rfl rfl (by decide) (by decide) ⟨Nat.le_refl _, Nat.le_refl _⟩ hl.1 (Nat.le_of_ble_eq_true rfl) dX6_entry_39 rfl) (fun H locs h => ?_)
    refine lv_aload_n hx hb dX6_entry_42 rfl (lv_at hl 0 rfl) ?_
    refine gf_BraidBook_books X h (hL (0, 0, 0, 0) ⟨rfl, rfl, rfl⟩) q188 dX6_entry_43 ?_
    refine lv_iload_n hx hb dX6_entry_46 rfl (lv_at hl 1 rfl) ?_
    refine x_doneI X h (x_runV X h (k := (1, 0, 0, 0)) (m_X0_makeEntry (jwM I z (nI 0) (nI d) (nI 0) (nI 0) (nI 0)) 0 hL hG (by omega) n mcs (jw_BK hB) d (by omega) (by omega) _) F_X0_makeEntry q416 q417 q418 (hL (1, 0, 0, 0) ⟨by omega, rfl, rfl⟩) rfl rfl rfl (by decide) (by decide) ⟨Nat.le_refl _, Nat.le_refl _⟩ hl.1 (Nat.le_of_ble_eq_true rfl) dX6_entry_47 rfl) (fun H locs h => ?_)
    exact x_iret X h hr rfl rfl (fun _ _ => rfl) dX6_entry_50
  · skip
    exact absurd hn9 (by omega)

set_option maxHeartbeats 4000000 in
set_option maxRecDepth 100000 in
theorem x_X6_entry_1 {l : Launch} {D : va_G} {tc : TC} {dz : Nat} {ad : KN → Nat} {Ks : List KN} {gm : GM} (I : Mem) (hst : l.stackTraces = false) (hL : LV gm Ks) (hG : GMok gm) (n : Nat) (mcs : Nat → Nat) (hB : BK gm I 0 n mcs) (x : Int32) (h0 : isDev x = false) : MX l yX6_entry cX6_entry 2 (Option.some ClassFile.FieldType.int) 9 D tc dz ad Ks (lay tc ad gm dz I) [.ref (ad (0, 0, 0, 0)), .int x] exI := by
  intro sz
  obtain ⟨hn, hn10, hmk⟩ := id hB
  refine x_ofX (by decide +kernel) (Nat.le_of_ble_eq_true rfl) (fun pp ee s mm bel meth cd ls X htab hz h hl => ?_)
  subst hz
  obtain ⟨hx, hb, hmaxL, hown, hts⟩ := id X.1
  have hl : lv_has ls 2 [(0, .ref (ad (0, 0, 0, 0))), (1, .int x)] := hl
  refine lv_iload_n hx hb dX6_entry_0 rfl (lv_at hl 1 rfl) ?_
  refine x_xdone X h (x_xrunS X h (x_X6_requireDevice I hst x h0 _) F_X6_requireDevice q202 q203 rfl (by decide) (by decide) ⟨by decide, by decide⟩ hl.1 (Nat.le_of_ble_eq_true rfl) dX6_entry_1 rfl) (fun ce q9 H locs h hce hcv hcl => ?_)
  exact x_xout X h htab hce hcv hcl (by decide) (by decide)

set_option maxHeartbeats 4000000 in
set_option maxRecDepth 100000 in
theorem x_X6_entry_2 {l : Launch} {D : va_G} {tc : TC} {dz : Nat} {ad : KN → Nat} {Ks : List KN} {gm : GM} (I : Mem) (hst : l.stackTraces = false) (hL : LV gm Ks) (hG : GMok gm) (n : Nat) (mcs : Nat → Nat) (hB : BK gm I 0 n mcs) (d : Nat) (hd : d < 6) (h10 : n = 10) : MX l yX6_entry cX6_entry 2 (Option.some ClassFile.FieldType.int) 9 D tc dz ad Ks (lay tc ad gm dz I) [.ref (ad (0, 0, 0, 0)), .int (nI d)] exS := by
  intro sz
  obtain ⟨hn, hn10, hmk⟩ := id hB
  refine x_ofX (by decide +kernel) (Nat.le_of_ble_eq_true rfl) (fun pp ee s mm bel meth cd ls X htab hz h hl => ?_)
  subst hz
  obtain ⟨hx, hb, hmaxL, hown, hts⟩ := id X.1
  have hl : lv_has ls 2 [(0, .ref (ad (0, 0, 0, 0))), (1, .int (nI d))] := hl
  refine lv_iload_n hx hb dX6_entry_0 rfl (lv_at hl 1 rfl) ?_
  refine x_doneV X h (x_runS X h (m_X6_requireDevice I d (by omega) _) F_X6_requireDevice q202 q203 rfl (by decide) (by decide) ⟨by decide, by decide⟩ hl.1 (Nat.le_of_ble_eq_true rfl) dX6_entry_1 rfl) (fun H locs h => ?_)
  refine lv_aload_n hx hb dX6_entry_4 rfl (lv_at hl 0 rfl) ?_
  refine gf_BraidBook_books X h (hL (0, 0, 0, 0) ⟨rfl, rfl, rfl⟩) q188 dX6_entry_5 ?_
  refine gf_Books_entryCount X h (hL (1, 0, 0, 0) ⟨by omega, rfl, rfl⟩) q151 (v := nI n) hn dX6_entry_8 ?_
  refine lv_bipush (v := nI 10) hx hb dX6_entry_11 (by decide) ?_
  refine n_icmp_lt (tgt := 26) hx hb (by omega) (by omega) dX6_entry_13 (by decide) (fun c_13 => ?_) (fun c_13 => ?_)
  · skip
    exact absurd h10 (by omega)
  · skip
    exact x_throw X h hst EX_S t395 hl.1 htab dX6_entry_16 dX6_entry_19 dX6_entry_20 dX6_entry_22 dX6_entry_25 (by decide) (by decide) (by decide) (by decide) (by decide) (by decide)

theorem inR_t {x a b : Int32} (h : inR x a b = true) : ¬ x < a ∧ x ≤ b := by
  unfold inR at h
  by_cases h0 : x < a
  · rw [if_pos h0] at h; cases h
  · rw [if_neg h0] at h
    by_cases h1 : b < x
    · rw [if_pos h1] at h; cases h
    · exact ⟨h0, Int32.not_lt.mp h1⟩
theorem inR_f {x a b : Int32} (h : inR x a b = false) (h0 : ¬ x < a) : ¬ x ≤ b := by
  unfold inR at h
  rw [if_neg h0] at h
  by_cases h1 : b < x
  · exact Int32.not_le.mpr h1
  · rw [if_neg h1] at h; cases h

set_option maxHeartbeats 4000000 in
set_option maxRecDepth 100000 in
theorem m_X6_tell {l : Launch} {D : va_G} {tc : TC} {dz : Nat} {ad : KN → Nat} {Ks : List KN} {gm : GM} (I : Mem) (hL : LV gm Ks) (hG : GMok gm) (n : Nat) (mcs : Nat → Nat) (hB : BK gm I 0 n mcs) (z : Nat) (hz5 : I (20, 0, 0, 0) 0 = nI z) (hz6 : z < 512) (d e f : Nat) (hd : d < 6) (hen : e < n) (hf : f < 4) (hk : nz (I (9, 0, e, d) 0) = true) (w : Int32) (hw : inR w (-1) (nI 999) = true) (hmay : bit (ff I 0 e d) f = true) : MI l yX6_tell cX6_tell 6 (Option.some ClassFile.FieldType.int) 9 D tc dz ad Ks (lay tc ad gm dz I) [.ref (ad (0, 0, 0, 0)), .int (nI d), .int (nI e), .int (nI f), .int w] (nI (cvF (I (10, 0, e, d)) f)) (lay tc ad gm dz (tllM (jwM I z (nI 1) (nI d) (nI e) (nI f) w) 0 e f d w)) := by
  intro sz
  obtain ⟨hn, hn10, hmk⟩ := id hB; have hw12 := inR_t hw
  refine x_ofW (by decide +kernel) (Nat.le_of_ble_eq_true rfl) (fun pp ee s mm bel meth cd ls X hr hin hz h hl => ?_)
  subst hz
  obtain ⟨hx, hb, hmaxL, hown, hts⟩ := id X.1
  have hl : lv_has ls 6 [(0, .ref (ad (0, 0, 0, 0))), (1, .int (nI d)), (2, .int (nI e)), (3, .int (nI f)), (4, .int w)] := hl
  refine lv_aload_n hx hb dX6_tell_0 rfl (lv_at hl 0 rfl) ?_
  refine gf_BraidBook_books X h (hL (0, 0, 0, 0) ⟨rfl, rfl, rfl⟩) q188 dX6_tell_1 ?_
  refine lv_iload_n hx hb dX6_tell_4 rfl (lv_at hl 1 rfl) ?_
  refine lv_iload_n hx hb dX6_tell_5 rfl (lv_at hl 2 rfl) ?_
  refine x_doneA X h (x_runS X h (m_X6_knownEntry I 0 hL hG (by omega) n mcs hB d e (by omega) (by omega) hk _) F_X6_knownEntry q426 q427 rfl (by decide) (by decide) ⟨Nat.le_refl _, Nat.le_refl _⟩ hl.1 (Nat.le_of_ble_eq_true rfl) dX6_tell_6 rfl) (fun H locs h => ?_)
  refine lv_astore (lv' := [(5, .ref (ad (4, 0, e, 0))), (0, .ref (ad (0, 0, 0, 0))), (1, .int (nI d)), (2, .int (nI e)), (3, .int (nI f)), (4, .int w)]) hx hb dX6_tell_9 hl (by decide) rfl (fun ls hl => ?_)
  refine lv_iload_n hx hb dX6_tell_11 rfl (lv_at hl 4 rfl) ?_
  refine x_doneV X h (x_runS X h (m_X6_requireField I f (by omega) _) F_X6_requireField q434 q435 rfl (by decide) (by decide) ⟨Nat.le_refl _, Nat.le_refl _⟩ hl.1 (Nat.le_of_ble_eq_true rfl) dX6_tell_12 rfl) (fun H locs h => ?_)
  refine lv_iload hx hb dX6_tell_15 (lv_at hl 5 rfl) ?_
  refine lv_iconst (v := (-1)) hx hb dX6_tell_17 (by decide) ?_
  refine lv_icmp_lt (tgt := 29) hx hb dX6_tell_18 (by decide) (fun c_18 => ?_) (fun c_18 => ?_)
  · skip
    exact absurd c_18 hw12.1
  · skip
    refine lv_iload hx hb dX6_tell_21 (lv_at hl 5 rfl) ?_
    refine lv_sipush (v := nI 999) hx hb dX6_tell_23 (by decide) ?_
    refine lv_icmp_le (tgt := 39) hx hb dX6_tell_26 (by decide) (fun c_26 => ?_) (fun c_26 => ?_)
    · skip
      refine lv_aload hx hb dX6_tell_39 (lv_at hl 0 rfl) ?_
      refine lv_iload_n hx hb dX6_tell_41 rfl (lv_at hl 2 rfl) ?_
      refine x_doneI X h (x_runV X h (k := (4, 0, e, 0)) (m_X2_fieldsFor I 0 e hL hG (by omega) (by omega) d (by omega) _) F_X2_fieldsFor q457 q344 q345 (hL (4, 0, e, 0) ⟨by omega, by omega, rfl⟩) rfl rfl rfl (by decide) (by decide) ⟨Nat.le_refl _, Nat.le_refl _⟩ hl.1 (Nat.le_of_ble_eq_true rfl) dX6_tell_42 rfl) (fun H locs h => ?_)
      refine lv_iload_n hx hb dX6_tell_45 rfl (lv_at hl 4 rfl) ?_
      refine x_doneI X h (x_runS X h (m_X6_contains I (ff I 0 e d) f _) F_X6_contains q458 q366 rfl (by decide) (by decide) ⟨Nat.le_refl _, Nat.le_refl _⟩ hl.1 (Nat.le_of_ble_eq_true rfl) dX6_tell_46 rfl) (fun H locs h => ?_)
      refine b_if_ne (tgt := 62) hx hb dX6_tell_49 (by decide) (fun c_49 => ?_) (fun c_49 => ?_)
      · skip
        refine lv_aload_n hx hb dX6_tell_62 rfl (lv_at hl 1 rfl) ?_
        refine x_doneV X h (x_runV X h (k := (0, 0, 0, 0)) (m_X6_requireRoomInJournal I hL z hz5 hz6 _) F_X6_requireRoomInJournal q402 q404 q1 (hL (0, 0, 0, 0) ⟨rfl, rfl, rfl⟩) rfl rfl rfl (by decide) (by decide) ⟨Nat.le_refl _, Nat.le_refl _⟩ hl.1 (Nat.le_of_ble_eq_true rfl) dX6_tell_63 rfl) (fun H locs h => ?_)
        refine lv_aload_n hx hb dX6_tell_66 rfl (lv_at hl 1 rfl) ?_
        refine gf_BraidBook_journal X h (hL (0, 0, 0, 0) ⟨rfl, rfl, rfl⟩) q190 dX6_tell_67 ?_
        refine lv_iconst (v := nI 1) hx hb dX6_tell_70 (by decide) ?_
        refine lv_iload_n hx hb dX6_tell_71 rfl (lv_at hl 2 rfl) ?_
        refine lv_iload_n hx hb dX6_tell_72 rfl (lv_at hl 3 rfl) ?_
        refine lv_iload_n hx hb dX6_tell_73 rfl (lv_at hl 4 rfl) ?_
        refine lv_iload hx hb dX6_tell_74 (lv_at hl 5 rfl) ?_
        refine x_doneV X h (x_runV X h (k := (20, 0, 0, 0)) (m_X3_write I hL z hz5 hz6 (nI 1) (nI d) (nI e) (nI f) w _) F_X3_write q411 q412 q413 (hL (20, 0, 0, 0) ⟨by decide, rfl, rfl, rfl⟩) rfl rfl rfl (by decide) (by decide) ⟨Nat.le_refl _, Nat.le_refl _⟩ hl.1 (Nat.le_of_ble_eq_true rfl) dX6_tell_76 rfl) (fun H locs h => ?_)
        refine lv_aload_n hx hb dX6_tell_79 rfl (lv_at hl 1 rfl) ?_
        refine gf_BraidBook_books X h (hL (0, 0, 0, 0) ⟨rfl, rfl, rfl⟩) q188 dX6_tell_80 ?_
        refine lv_iload_n hx hb dX6_tell_83 rfl (lv_at hl 2 rfl) ?_
        refine lv_iload_n hx hb dX6_tell_84 rfl (lv_at hl 3 rfl) ?_
        refine lv_iload_n hx hb dX6_tell_85 rfl (lv_at hl 4 rfl) ?_
        refine lv_iload hx hb dX6_tell_86 (lv_at hl 5 rfl) ?_
        refine x_doneI X h (x_runV X h (k := (1, 0, 0, 0)) (m_X0_tellValue (jwM I z (nI 1) (nI d) (nI e) (nI f) w) 0 hL hG (by omega) n mcs (jw_BK hB) d e f w (by omega) (by omega) (by omega) _) F_X0_tellValue q460 q461 q462 (hL (1, 0, 0, 0) ⟨by omega, rfl, rfl⟩) rfl rfl rfl (by decide) (by decide) ⟨Nat.le_refl _, Nat.le_refl _⟩ hl.1 (Nat.le_of_ble_eq_true rfl) dX6_tell_88 rfl) (fun H locs h => ?_)
        refine x_iret X h hr rfl ?_ (fun _ _ => rfl) dX6_tell_91
        · rw [jw_see (by exact Nat.ne_of_beq_eq_false rfl) (by exact Nat.ne_of_beq_eq_false rfl) (by exact Nat.ne_of_beq_eq_false rfl) (by exact Nat.ne_of_beq_eq_false rfl) (by exact Nat.ne_of_beq_eq_false rfl) (by exact Nat.ne_of_beq_eq_false rfl)]
      · skip
        exact absurd hmay (by rw [c_49]; decide)
    · skip
      exact absurd hw12.2 c_26

set_option maxHeartbeats 4000000 in
set_option maxRecDepth 100000 in
theorem x_X6_tell_1a {l : Launch} {D : va_G} {tc : TC} {dz : Nat} {ad : KN → Nat} {Ks : List KN} {gm : GM} (I : Mem) (hst : l.stackTraces = false) (hL : LV gm Ks) (hG : GMok gm) (n : Nat) (mcs : Nat → Nat) (hB : BK gm I 0 n mcs) (x y u w : Int32) (h0 : ckn I 0 n x y = false) : MX l yX6_tell cX6_tell 6 (Option.some ClassFile.FieldType.int) 9 D tc dz ad Ks (lay tc ad gm dz I) [.ref (ad (0, 0, 0, 0)), .int x, .int y, .int u, .int w] exI := by
  intro sz
  obtain ⟨hn, hn10, hmk⟩ := id hB
  refine x_ofX (by decide +kernel) (Nat.le_of_ble_eq_true rfl) (fun pp ee s mm bel meth cd ls X htab hz h hl => ?_)
  subst hz
  obtain ⟨hx, hb, hmaxL, hown, hts⟩ := id X.1
  have hl : lv_has ls 6 [(0, .ref (ad (0, 0, 0, 0))), (1, .int x), (2, .int y), (3, .int u), (4, .int w)] := hl
  refine lv_aload_n hx hb dX6_tell_0 rfl (lv_at hl 0 rfl) ?_
  refine gf_BraidBook_books X h (hL (0, 0, 0, 0) ⟨rfl, rfl, rfl⟩) q188 dX6_tell_1 ?_
  refine lv_iload_n hx hb dX6_tell_4 rfl (lv_at hl 1 rfl) ?_
  refine lv_iload_n hx hb dX6_tell_5 rfl (lv_at hl 2 rfl) ?_
  refine x_xdone X h (x_xrunS X h (x_X6_knownEntry I hst 0 hL hG (by decide) n mcs hB x y h0 _) F_X6_knownEntry q426 q427 rfl (by decide) (by decide) ⟨by decide, by decide⟩ hl.1 (Nat.le_of_ble_eq_true rfl) dX6_tell_6 rfl) (fun ce q9 H locs h hce hcv hcl => ?_)
  exact x_xout X h htab hce hcv hcl (by decide) (by decide)

set_option maxHeartbeats 4000000 in
set_option maxRecDepth 100000 in
theorem x_X6_tell_1b {l : Launch} {D : va_G} {tc : TC} {dz : Nat} {ad : KN → Nat} {Ks : List KN} {gm : GM} (I : Mem) (hst : l.stackTraces = false) (hL : LV gm Ks) (hG : GMok gm) (n : Nat) (mcs : Nat → Nat) (hB : BK gm I 0 n mcs) (d e : Nat) (hd : d < 6) (hen : e < n) (hk : nz (I (9, 0, e, d) 0) = true) (u w : Int32) (h0 : isFld u = false) : MX l yX6_tell cX6_tell 6 (Option.some ClassFile.FieldType.int) 9 D tc dz ad Ks (lay tc ad gm dz I) [.ref (ad (0, 0, 0, 0)), .int (nI d), .int (nI e), .int u, .int w] exI := by
  intro sz
  obtain ⟨hn, hn10, hmk⟩ := id hB
  refine x_ofX (by decide +kernel) (Nat.le_of_ble_eq_true rfl) (fun pp ee s mm bel meth cd ls X htab hz h hl => ?_)
  subst hz
  obtain ⟨hx, hb, hmaxL, hown, hts⟩ := id X.1
  have hl : lv_has ls 6 [(0, .ref (ad (0, 0, 0, 0))), (1, .int (nI d)), (2, .int (nI e)), (3, .int u), (4, .int w)] := hl
  refine lv_aload_n hx hb dX6_tell_0 rfl (lv_at hl 0 rfl) ?_
  refine gf_BraidBook_books X h (hL (0, 0, 0, 0) ⟨rfl, rfl, rfl⟩) q188 dX6_tell_1 ?_
  refine lv_iload_n hx hb dX6_tell_4 rfl (lv_at hl 1 rfl) ?_
  refine lv_iload_n hx hb dX6_tell_5 rfl (lv_at hl 2 rfl) ?_
  refine x_doneA X h (x_runS X h (m_X6_knownEntry I 0 hL hG (by omega) n mcs hB d e (by omega) (by omega) hk _) F_X6_knownEntry q426 q427 rfl (by decide) (by decide) ⟨by decide, by decide⟩ hl.1 (Nat.le_of_ble_eq_true rfl) dX6_tell_6 rfl) (fun H locs h => ?_)
  refine lv_astore (lv' := [(5, .ref (ad (4, 0, e, 0))), (0, .ref (ad (0, 0, 0, 0))), (1, .int (nI d)), (2, .int (nI e)), (3, .int u), (4, .int w)]) hx hb dX6_tell_9 hl (by decide) rfl (fun ls hl => ?_)
  refine lv_iload_n hx hb dX6_tell_11 rfl (lv_at hl 4 rfl) ?_
  refine x_xdone X h (x_xrunS X h (x_X6_requireField I hst u h0 _) F_X6_requireField q434 q435 rfl (by decide) (by decide) ⟨by decide, by decide⟩ hl.1 (Nat.le_of_ble_eq_true rfl) dX6_tell_12 rfl) (fun ce q9 H locs h hce hcv hcl => ?_)
  exact x_xout X h htab hce hcv hcl (by decide) (by decide)

set_option maxHeartbeats 4000000 in
set_option maxRecDepth 100000 in
theorem x_X6_tell_2 {l : Launch} {D : va_G} {tc : TC} {dz : Nat} {ad : KN → Nat} {Ks : List KN} {gm : GM} (I : Mem) (hst : l.stackTraces = false) (hL : LV gm Ks) (hG : GMok gm) (n : Nat) (mcs : Nat → Nat) (hB : BK gm I 0 n mcs) (d e f : Nat) (hd : d < 6) (hen : e < n) (hf : f < 4) (hk : nz (I (9, 0, e, d) 0) = true) (w : Int32) (hw : inR w (-1) (nI 999) = false) : MX l yX6_tell cX6_tell 6 (Option.some ClassFile.FieldType.int) 9 D tc dz ad Ks (lay tc ad gm dz I) [.ref (ad (0, 0, 0, 0)), .int (nI d), .int (nI e), .int (nI f), .int w] exA := by
  intro sz
  obtain ⟨hn, hn10, hmk⟩ := id hB
  refine x_ofX (by decide +kernel) (Nat.le_of_ble_eq_true rfl) (fun pp ee s mm bel meth cd ls X htab hz h hl => ?_)
  subst hz
  obtain ⟨hx, hb, hmaxL, hown, hts⟩ := id X.1
  have hl : lv_has ls 6 [(0, .ref (ad (0, 0, 0, 0))), (1, .int (nI d)), (2, .int (nI e)), (3, .int (nI f)), (4, .int w)] := hl
  refine lv_aload_n hx hb dX6_tell_0 rfl (lv_at hl 0 rfl) ?_
  refine gf_BraidBook_books X h (hL (0, 0, 0, 0) ⟨rfl, rfl, rfl⟩) q188 dX6_tell_1 ?_
  refine lv_iload_n hx hb dX6_tell_4 rfl (lv_at hl 1 rfl) ?_
  refine lv_iload_n hx hb dX6_tell_5 rfl (lv_at hl 2 rfl) ?_
  refine x_doneA X h (x_runS X h (m_X6_knownEntry I 0 hL hG (by omega) n mcs hB d e (by omega) (by omega) hk _) F_X6_knownEntry q426 q427 rfl (by decide) (by decide) ⟨by decide, by decide⟩ hl.1 (Nat.le_of_ble_eq_true rfl) dX6_tell_6 rfl) (fun H locs h => ?_)
  refine lv_astore (lv' := [(5, .ref (ad (4, 0, e, 0))), (0, .ref (ad (0, 0, 0, 0))), (1, .int (nI d)), (2, .int (nI e)), (3, .int (nI f)), (4, .int w)]) hx hb dX6_tell_9 hl (by decide) rfl (fun ls hl => ?_)
  refine lv_iload_n hx hb dX6_tell_11 rfl (lv_at hl 4 rfl) ?_
  refine x_doneV X h (x_runS X h (m_X6_requireField I f (by omega) _) F_X6_requireField q434 q435 rfl (by decide) (by decide) ⟨by decide, by decide⟩ hl.1 (Nat.le_of_ble_eq_true rfl) dX6_tell_12 rfl) (fun H locs h => ?_)
  refine lv_iload hx hb dX6_tell_15 (lv_at hl 5 rfl) ?_
  refine lv_iconst (v := (-1)) hx hb dX6_tell_17 (by decide) ?_
  refine lv_icmp_lt (tgt := 29) hx hb dX6_tell_18 (by decide) (fun c_18 => ?_) (fun c_18 => ?_)
  · skip
    exact x_throw X h hst EX_A t450 hl.1 htab dX6_tell_29 dX6_tell_32 dX6_tell_33 dX6_tell_35 dX6_tell_38 (by decide) (by decide) (by decide) (by decide) (by decide) (by decide)
  · skip
    refine lv_iload hx hb dX6_tell_21 (lv_at hl 5 rfl) ?_
    refine lv_sipush (v := nI 999) hx hb dX6_tell_23 (by decide) ?_
    refine lv_icmp_le (tgt := 39) hx hb dX6_tell_26 (by decide) (fun c_26 => ?_) (fun c_26 => ?_)
    · skip
      exact absurd c_26 (inR_f hw c_18)
    · skip
      exact x_throw X h hst EX_A t450 hl.1 htab dX6_tell_29 dX6_tell_32 dX6_tell_33 dX6_tell_35 dX6_tell_38 (by decide) (by decide) (by decide) (by decide) (by decide) (by decide)

set_option maxHeartbeats 4000000 in
set_option maxRecDepth 100000 in
theorem x_X6_tell_3 {l : Launch} {D : va_G} {tc : TC} {dz : Nat} {ad : KN → Nat} {Ks : List KN} {gm : GM} (I : Mem) (hst : l.stackTraces = false) (hL : LV gm Ks) (hG : GMok gm) (n : Nat) (mcs : Nat → Nat) (hB : BK gm I 0 n mcs) (d e f : Nat) (hd : d < 6) (hen : e < n) (hf : f < 4) (hk : nz (I (9, 0, e, d) 0) = true) (w : Int32) (hw : inR w (-1) (nI 999) = true) (hmay : bit (ff I 0 e d) f = false) : MX l yX6_tell cX6_tell 6 (Option.some ClassFile.FieldType.int) 9 D tc dz ad Ks (lay tc ad gm dz I) [.ref (ad (0, 0, 0, 0)), .int (nI d), .int (nI e), .int (nI f), .int w] exS := by
  intro sz
  obtain ⟨hn, hn10, hmk⟩ := id hB; have hw12 := inR_t hw
  refine x_ofX (by decide +kernel) (Nat.le_of_ble_eq_true rfl) (fun pp ee s mm bel meth cd ls X htab hz h hl => ?_)
  subst hz
  obtain ⟨hx, hb, hmaxL, hown, hts⟩ := id X.1
  have hl : lv_has ls 6 [(0, .ref (ad (0, 0, 0, 0))), (1, .int (nI d)), (2, .int (nI e)), (3, .int (nI f)), (4, .int w)] := hl
  refine lv_aload_n hx hb dX6_tell_0 rfl (lv_at hl 0 rfl) ?_
  refine gf_BraidBook_books X h (hL (0, 0, 0, 0) ⟨rfl, rfl, rfl⟩) q188 dX6_tell_1 ?_
  refine lv_iload_n hx hb dX6_tell_4 rfl (lv_at hl 1 rfl) ?_
  refine lv_iload_n hx hb dX6_tell_5 rfl (lv_at hl 2 rfl) ?_
  refine x_doneA X h (x_runS X h (m_X6_knownEntry I 0 hL hG (by omega) n mcs hB d e (by omega) (by omega) hk _) F_X6_knownEntry q426 q427 rfl (by decide) (by decide) ⟨by decide, by decide⟩ hl.1 (Nat.le_of_ble_eq_true rfl) dX6_tell_6 rfl) (fun H locs h => ?_)
  refine lv_astore (lv' := [(5, .ref (ad (4, 0, e, 0))), (0, .ref (ad (0, 0, 0, 0))), (1, .int (nI d)), (2, .int (nI e)), (3, .int (nI f)), (4, .int w)]) hx hb dX6_tell_9 hl (by decide) rfl (fun ls hl => ?_)
  refine lv_iload_n hx hb dX6_tell_11 rfl (lv_at hl 4 rfl) ?_
  refine x_doneV X h (x_runS X h (m_X6_requireField I f (by omega) _) F_X6_requireField q434 q435 rfl (by decide) (by decide) ⟨by decide, by decide⟩ hl.1 (Nat.le_of_ble_eq_true rfl) dX6_tell_12 rfl) (fun H locs h => ?_)
  refine lv_iload hx hb dX6_tell_15 (lv_at hl 5 rfl) ?_
  refine lv_iconst (v := (-1)) hx hb dX6_tell_17 (by decide) ?_
  refine lv_icmp_lt (tgt := 29) hx hb dX6_tell_18 (by decide) (fun c_18 => ?_) (fun c_18 => ?_)
  · skip
    exact absurd c_18 hw12.1
  · skip
    refine lv_iload hx hb dX6_tell_21 (lv_at hl 5 rfl) ?_
    refine lv_sipush (v := nI 999) hx hb dX6_tell_23 (by decide) ?_
    refine lv_icmp_le (tgt := 39) hx hb dX6_tell_26 (by decide) (fun c_26 => ?_) (fun c_26 => ?_)
    · skip
      refine lv_aload hx hb dX6_tell_39 (lv_at hl 0 rfl) ?_
      refine lv_iload_n hx hb dX6_tell_41 rfl (lv_at hl 2 rfl) ?_
      refine x_doneI X h (x_runV X h (k := (4, 0, e, 0)) (m_X2_fieldsFor I 0 e hL hG (by omega) (by omega) d (by omega) _) F_X2_fieldsFor q457 q344 q345 (hL (4, 0, e, 0) ⟨by omega, by omega, rfl⟩) rfl rfl rfl (by decide) (by decide) ⟨by decide, by decide⟩ hl.1 (Nat.le_of_ble_eq_true rfl) dX6_tell_42 rfl) (fun H locs h => ?_)
      refine lv_iload_n hx hb dX6_tell_45 rfl (lv_at hl 4 rfl) ?_
      refine x_doneI X h (x_runS X h (m_X6_contains I (ff I 0 e d) f _) F_X6_contains q458 q366 rfl (by decide) (by decide) ⟨by decide, by decide⟩ hl.1 (Nat.le_of_ble_eq_true rfl) dX6_tell_46 rfl) (fun H locs h => ?_)
      refine b_if_ne (tgt := 62) hx hb dX6_tell_49 (by decide) (fun c => by rw [hmay] at c; cases c) (fun _ => ?_)
      exact x_throw X h hst EX_S t459 hl.1 htab dX6_tell_52 dX6_tell_55 dX6_tell_56 dX6_tell_58 dX6_tell_61 (by decide) (by decide) (by decide) (by decide) (by decide) (by decide)
    · skip
      exact absurd hw12.2 c_26

theorem x_X6_tell_1 {l : Launch} {D : va_G} {tc : TC} {dz : Nat} {ad : KN → Nat} {Ks : List KN} {gm : GM} (I : Mem) (hst : l.stackTraces = false) (hL : LV gm Ks) (hG : GMok gm) (n : Nat) (mcs : Nat → Nat) (hB : BK gm I 0 n mcs) (x y u w : Int32) (h0 : (ckn I 0 n x y && isFld u) = false) : MX l yX6_tell cX6_tell 6 (some .int) 9 D tc dz ad Ks (lay tc ad gm dz I) [.ref (ad (0, 0, 0, 0)), .int x, .int y, .int u, .int w] exI := by
  cases hc : ckn I 0 n x y with
  | false => exact x_X6_tell_1a I hst hL hG n mcs hB x y u w hc
  | true =>
    have hxy : isDev x = true ∧ isEnt n y = true := by
      unfold ckn at hc
      rw [Bool.and_eq_true, Bool.and_eq_true] at hc
      exact ⟨hc.1, hc.2.1⟩
    obtain ⟨d, hd, rfl⟩ := isDev_of hxy.1
    obtain ⟨e, he, rfl⟩ := isEnt_of hB.2.1 hxy.2
    have hk : nz (I (9, 0, e, d) 0) = true := by rw [← hc, ckn_nI hB.2.1 hd he]
    rw [hc, Bool.true_and] at h0
    exact x_X6_tell_1b I hst hL hG n mcs hB d e hd he hk u w h0

set_option maxHeartbeats 4000000 in
set_option maxRecDepth 100000 in
theorem x_X6_delete_1 {l : Launch} {D : va_G} {tc : TC} {dz : Nat} {ad : KN → Nat} {Ks : List KN} {gm : GM} (I : Mem) (hst : l.stackTraces = false) (hL : LV gm Ks) (hG : GMok gm) (n : Nat) (mcs : Nat → Nat) (hB : BK gm I 0 n mcs) (x y : Int32) (h0 : ckn I 0 n x y = false) : MX l yX6_delete cX6_delete 4 (Option.some ClassFile.FieldType.int) 9 D tc dz ad Ks (lay tc ad gm dz I) [.ref (ad (0, 0, 0, 0)), .int x, .int y] exI := by
  intro sz
  obtain ⟨hn, hn10, hmk⟩ := id hB
  refine x_ofX (by decide +kernel) (Nat.le_of_ble_eq_true rfl) (fun pp ee s mm bel meth cd ls X htab hz h hl => ?_)
  subst hz
  obtain ⟨hx, hb, hmaxL, hown, hts⟩ := id X.1
  have hl : lv_has ls 4 [(0, .ref (ad (0, 0, 0, 0))), (1, .int x), (2, .int y)] := hl
  refine lv_aload_n hx hb dX6_delete_0 rfl (lv_at hl 0 rfl) ?_
  refine gf_BraidBook_books X h (hL (0, 0, 0, 0) ⟨rfl, rfl, rfl⟩) q188 dX6_delete_1 ?_
  refine lv_iload_n hx hb dX6_delete_4 rfl (lv_at hl 1 rfl) ?_
  refine lv_iload_n hx hb dX6_delete_5 rfl (lv_at hl 2 rfl) ?_
  refine x_xdone X h (x_xrunS X h (x_X6_knownEntry I hst 0 hL hG (by decide) n mcs hB x y h0 _) F_X6_knownEntry q426 q427 rfl (by decide) (by decide) ⟨by decide, by decide⟩ hl.1 (Nat.le_of_ble_eq_true rfl) dX6_delete_6 rfl) (fun ce q9 H locs h hce hcv hcl => ?_)
  exact x_xout X h htab hce hcv hcl (by decide) (by decide)

set_option maxHeartbeats 4000000 in
set_option maxRecDepth 100000 in
theorem x_X6_delete_2a {l : Launch} {D : va_G} {tc : TC} {dz : Nat} {ad : KN → Nat} {Ks : List KN} {gm : GM} (I : Mem) (hst : l.stackTraces = false) (hL : LV gm Ks) (hG : GMok gm) (n : Nat) (mcs : Nat → Nat) (hB : BK gm I 0 n mcs) (d e : Nat) (hd : d < 6) (hen : e < n) (hk : nz (I (9, 0, e, d) 0) = true) (how : I (4, 0, e, 0) 0 ≠ nI (d / 2)) : MX l yX6_delete cX6_delete 4 (Option.some ClassFile.FieldType.int) 9 D tc dz ad Ks (lay tc ad gm dz I) [.ref (ad (0, 0, 0, 0)), .int (nI d), .int (nI e)] exS := by
  intro sz
  obtain ⟨hn, hn10, hmk⟩ := id hB
  refine x_ofX (by decide +kernel) (Nat.le_of_ble_eq_true rfl) (fun pp ee s mm bel meth cd ls X htab hz h hl => ?_)
  subst hz
  obtain ⟨hx, hb, hmaxL, hown, hts⟩ := id X.1
  have hl : lv_has ls 4 [(0, .ref (ad (0, 0, 0, 0))), (1, .int (nI d)), (2, .int (nI e))] := hl
  refine lv_aload_n hx hb dX6_delete_0 rfl (lv_at hl 0 rfl) ?_
  refine gf_BraidBook_books X h (hL (0, 0, 0, 0) ⟨rfl, rfl, rfl⟩) q188 dX6_delete_1 ?_
  refine lv_iload_n hx hb dX6_delete_4 rfl (lv_at hl 1 rfl) ?_
  refine lv_iload_n hx hb dX6_delete_5 rfl (lv_at hl 2 rfl) ?_
  refine x_doneA X h (x_runS X h (m_X6_knownEntry I 0 hL hG (by omega) n mcs hB d e (by omega) (by omega) hk _) F_X6_knownEntry q426 q427 rfl (by decide) (by decide) ⟨by decide, by decide⟩ hl.1 (Nat.le_of_ble_eq_true rfl) dX6_delete_6 rfl) (fun H locs h => ?_)
  refine lv_astore_n (lv' := [(3, .ref (ad (4, 0, e, 0))), (0, .ref (ad (0, 0, 0, 0))), (1, .int (nI d)), (2, .int (nI e))]) hx hb dX6_delete_9 rfl hl (by decide) rfl (fun ls hl => ?_)
  refine lv_aload_n hx hb dX6_delete_10 rfl (lv_at hl 0 rfl) ?_
  refine lv_iload_n hx hb dX6_delete_11 rfl (lv_at hl 2 rfl) ?_
  refine x_xdone X h (x_xrunS X h (x_X6_requireOwner I hst 0 e d hL (by decide) (by omega) (by omega) how _) F_X6_requireOwner q480 q481 rfl (by decide) (by decide) ⟨by decide, by decide⟩ hl.1 (Nat.le_of_ble_eq_true rfl) dX6_delete_12 rfl) (fun ce q9 H locs h hce hcv hcl => ?_)
  exact x_xout X h htab hce hcv hcl (by decide) (by decide)

set_option maxHeartbeats 4000000 in
set_option maxRecDepth 100000 in
theorem x_X6_delete_2b {l : Launch} {D : va_G} {tc : TC} {dz : Nat} {ad : KN → Nat} {Ks : List KN} {gm : GM} (I : Mem) (hst : l.stackTraces = false) (hL : LV gm Ks) (hG : GMok gm) (n : Nat) (mcs : Nat → Nat) (hB : BK gm I 0 n mcs) (d e : Nat) (hd : d < 6) (hen : e < n) (hk : nz (I (9, 0, e, d) 0) = true) (how : I (4, 0, e, 0) 0 = nI (d / 2)) (hs : sto I 0 e d (mcs e) ≠ 1) : MX l yX6_delete cX6_delete 4 (Option.some ClassFile.FieldType.int) 9 D tc dz ad Ks (lay tc ad gm dz I) [.ref (ad (0, 0, 0, 0)), .int (nI d), .int (nI e)] exS := by
  intro sz
  obtain ⟨hn, hn10, hmk⟩ := id hB
  refine x_ofX (by decide +kernel) (Nat.le_of_ble_eq_true rfl) (fun pp ee s mm bel meth cd ls X htab hz h hl => ?_)
  subst hz
  obtain ⟨hx, hb, hmaxL, hown, hts⟩ := id X.1
  have hl : lv_has ls 4 [(0, .ref (ad (0, 0, 0, 0))), (1, .int (nI d)), (2, .int (nI e))] := hl
  refine lv_aload_n hx hb dX6_delete_0 rfl (lv_at hl 0 rfl) ?_
  refine gf_BraidBook_books X h (hL (0, 0, 0, 0) ⟨rfl, rfl, rfl⟩) q188 dX6_delete_1 ?_
  refine lv_iload_n hx hb dX6_delete_4 rfl (lv_at hl 1 rfl) ?_
  refine lv_iload_n hx hb dX6_delete_5 rfl (lv_at hl 2 rfl) ?_
  refine x_doneA X h (x_runS X h (m_X6_knownEntry I 0 hL hG (by omega) n mcs hB d e (by omega) (by omega) hk _) F_X6_knownEntry q426 q427 rfl (by decide) (by decide) ⟨by decide, by decide⟩ hl.1 (Nat.le_of_ble_eq_true rfl) dX6_delete_6 rfl) (fun H locs h => ?_)
  refine lv_astore_n (lv' := [(3, .ref (ad (4, 0, e, 0))), (0, .ref (ad (0, 0, 0, 0))), (1, .int (nI d)), (2, .int (nI e))]) hx hb dX6_delete_9 rfl hl (by decide) rfl (fun ls hl => ?_)
  refine lv_aload_n hx hb dX6_delete_10 rfl (lv_at hl 0 rfl) ?_
  refine lv_iload_n hx hb dX6_delete_11 rfl (lv_at hl 2 rfl) ?_
  refine x_doneV X h (x_runS X h (m_X6_requireOwner I 0 e d hL (by omega) (by omega) (by omega) how _) F_X6_requireOwner q480 q481 rfl (by decide) (by decide) ⟨by decide, by decide⟩ hl.1 (Nat.le_of_ble_eq_true rfl) dX6_delete_12 rfl) (fun H locs h => ?_)
  refine lv_aload_n hx hb dX6_delete_15 rfl (lv_at hl 0 rfl) ?_
  refine lv_iload_n hx hb dX6_delete_16 rfl (lv_at hl 2 rfl) ?_
  refine x_doneI X h (x_runV X h (k := (4, 0, e, 0)) (m_X2_stateOn I 0 e hL hG (by omega) (by omega) d (by omega) (mcs e) (hmk e (by omega)).1 (hmk e (by omega)).2 _) F_X2_stateOn q485 q281 q282 (hL (4, 0, e, 0) ⟨by omega, by omega, rfl⟩) rfl rfl rfl (by decide) (by decide) ⟨by decide, by decide⟩ hl.1 (Nat.le_of_ble_eq_true rfl) dX6_delete_17 rfl) (fun H locs h => ?_)
  have hsl := sto_le I 0 e d (mcs e)
  refine lv_iconst (v := nI 1) hx hb dX6_delete_20 (by decide) ?_
  refine n_icmp_eq (tgt := 34) hx hb (by omega) (by omega) dX6_delete_21 (by decide) (fun c_21 => ?_) (fun c_21 => ?_)
  · skip
    exact absurd c_21 hs
  · skip
    exact x_throw X h hst EX_S t486 hl.1 htab dX6_delete_24 dX6_delete_27 dX6_delete_28 dX6_delete_30 dX6_delete_33 (by decide) (by decide) (by decide) (by decide) (by decide) (by decide)

set_option maxHeartbeats 4000000 in
set_option maxRecDepth 100000 in
theorem x_X6_share_1a {l : Launch} {D : va_G} {tc : TC} {dz : Nat} {ad : KN → Nat} {Ks : List KN} {gm : GM} (I : Mem) (hst : l.stackTraces = false) (hL : LV gm Ks) (hG : GMok gm) (n : Nat) (mcs : Nat → Nat) (hB : BK gm I 0 n mcs) (x y u w : Int32) (h0 : ckn I 0 n x y = false) : MX l yX6_share cX6_share 6 (Option.some ClassFile.FieldType.int) 9 D tc dz ad Ks (lay tc ad gm dz I) [.ref (ad (0, 0, 0, 0)), .int x, .int y, .int u, .int w] exI := by
  intro sz
  obtain ⟨hn, hn10, hmk⟩ := id hB
  refine x_ofX (by decide +kernel) (Nat.le_of_ble_eq_true rfl) (fun pp ee s mm bel meth cd ls X htab hz h hl => ?_)
  subst hz
  obtain ⟨hx, hb, hmaxL, hown, hts⟩ := id X.1
  have hl : lv_has ls 6 [(0, .ref (ad (0, 0, 0, 0))), (1, .int x), (2, .int y), (3, .int u), (4, .int w)] := hl
  refine lv_aload_n hx hb dX6_share_0 rfl (lv_at hl 0 rfl) ?_
  refine gf_BraidBook_books X h (hL (0, 0, 0, 0) ⟨rfl, rfl, rfl⟩) q188 dX6_share_1 ?_
  refine lv_iload_n hx hb dX6_share_4 rfl (lv_at hl 1 rfl) ?_
  refine lv_iload_n hx hb dX6_share_5 rfl (lv_at hl 2 rfl) ?_
  refine x_xdone X h (x_xrunS X h (x_X6_knownEntry I hst 0 hL hG (by decide) n mcs hB x y h0 _) F_X6_knownEntry q426 q427 rfl (by decide) (by decide) ⟨by decide, by decide⟩ hl.1 (Nat.le_of_ble_eq_true rfl) dX6_share_6 rfl) (fun ce q9 H locs h hce hcv hcl => ?_)
  exact x_xout X h htab hce hcv hcl (by decide) (by decide)

set_option maxHeartbeats 4000000 in
set_option maxRecDepth 100000 in
theorem x_X6_share_1b {l : Launch} {D : va_G} {tc : TC} {dz : Nat} {ad : KN → Nat} {Ks : List KN} {gm : GM} (I : Mem) (hst : l.stackTraces = false) (hL : LV gm Ks) (hG : GMok gm) (n : Nat) (mcs : Nat → Nat) (hB : BK gm I 0 n mcs) (d e : Nat) (hd : d < 6) (hen : e < n) (hk : nz (I (9, 0, e, d) 0) = true) (u w : Int32) (h0 : isPer u = false) : MX l yX6_share cX6_share 6 (Option.some ClassFile.FieldType.int) 9 D tc dz ad Ks (lay tc ad gm dz I) [.ref (ad (0, 0, 0, 0)), .int (nI d), .int (nI e), .int u, .int w] exI := by
  intro sz
  obtain ⟨hn, hn10, hmk⟩ := id hB
  refine x_ofX (by decide +kernel) (Nat.le_of_ble_eq_true rfl) (fun pp ee s mm bel meth cd ls X htab hz h hl => ?_)
  subst hz
  obtain ⟨hx, hb, hmaxL, hown, hts⟩ := id X.1
  have hl : lv_has ls 6 [(0, .ref (ad (0, 0, 0, 0))), (1, .int (nI d)), (2, .int (nI e)), (3, .int u), (4, .int w)] := hl
  refine lv_aload_n hx hb dX6_share_0 rfl (lv_at hl 0 rfl) ?_
  refine gf_BraidBook_books X h (hL (0, 0, 0, 0) ⟨rfl, rfl, rfl⟩) q188 dX6_share_1 ?_
  refine lv_iload_n hx hb dX6_share_4 rfl (lv_at hl 1 rfl) ?_
  refine lv_iload_n hx hb dX6_share_5 rfl (lv_at hl 2 rfl) ?_
  refine x_doneA X h (x_runS X h (m_X6_knownEntry I 0 hL hG (by omega) n mcs hB d e (by omega) (by omega) hk _) F_X6_knownEntry q426 q427 rfl (by decide) (by decide) ⟨by decide, by decide⟩ hl.1 (Nat.le_of_ble_eq_true rfl) dX6_share_6 rfl) (fun H locs h => ?_)
  refine lv_astore (lv' := [(5, .ref (ad (4, 0, e, 0))), (0, .ref (ad (0, 0, 0, 0))), (1, .int (nI d)), (2, .int (nI e)), (3, .int u), (4, .int w)]) hx hb dX6_share_9 hl (by decide) rfl (fun ls hl => ?_)
  refine lv_iload_n hx hb dX6_share_11 rfl (lv_at hl 4 rfl) ?_
  refine x_doneI X h (x_runS X h (m_X6_isPerson I u _) F_X6_isPerson q587 q588 rfl (by decide) (by decide) ⟨by decide, by decide⟩ hl.1 (Nat.le_of_ble_eq_true rfl) dX6_share_12 rfl) (fun H locs h => ?_)
  refine b_if_ne (tgt := 28) hx hb dX6_share_15 (by decide) (fun c => by rw [h0] at c; cases c) (fun _ => ?_)
  exact x_throw X h hst EX_I t590 hl.1 htab dX6_share_18 dX6_share_21 dX6_share_22 dX6_share_24 dX6_share_27 (by decide) (by decide) (by decide) (by decide) (by decide) (by decide)

theorem x_X6_share_1 {l : Launch} {D : va_G} {tc : TC} {dz : Nat} {ad : KN → Nat} {Ks : List KN} {gm : GM} (I : Mem) (hst : l.stackTraces = false) (hL : LV gm Ks) (hG : GMok gm) (n : Nat) (mcs : Nat → Nat) (hB : BK gm I 0 n mcs) (x y u w : Int32) (h0 : (ckn I 0 n x y && isPer u) = false) : MX l yX6_share cX6_share 6 (some .int) 9 D tc dz ad Ks (lay tc ad gm dz I) [.ref (ad (0, 0, 0, 0)), .int x, .int y, .int u, .int w] exI := by
  cases hc : ckn I 0 n x y with
  | false => exact x_X6_share_1a I hst hL hG n mcs hB x y u w hc
  | true =>
    have hxy : isDev x = true ∧ isEnt n y = true := by
      unfold ckn at hc
      rw [Bool.and_eq_true, Bool.and_eq_true] at hc
      exact ⟨hc.1, hc.2.1⟩
    obtain ⟨d, hd, rfl⟩ := isDev_of hxy.1
    obtain ⟨e, he, rfl⟩ := isEnt_of hB.2.1 hxy.2
    have hk : nz (I (9, 0, e, d) 0) = true := by rw [← hc, ckn_nI hB.2.1 hd he]
    rw [hc, Bool.true_and] at h0
    exact x_X6_share_1b I hst hL hG n mcs hB d e hd he hk u w h0

set_option maxHeartbeats 4000000 in
set_option maxRecDepth 100000 in
theorem x_X6_share_2 {l : Launch} {D : va_G} {tc : TC} {dz : Nat} {ad : KN → Nat} {Ks : List KN} {gm : GM} (I : Mem) (hst : l.stackTraces = false) (hL : LV gm Ks) (hG : GMok gm) (n : Nat) (mcs : Nat → Nat) (hB : BK gm I 0 n mcs) (d e q : Nat) (hd : d < 6) (hen : e < n) (hq : q < 3) (hk : nz (I (9, 0, e, d) 0) = true) (w : Int32) (hw : inR w (nI 0) (nI 15) = false) : MX l yX6_share cX6_share 6 (Option.some ClassFile.FieldType.int) 9 D tc dz ad Ks (lay tc ad gm dz I) [.ref (ad (0, 0, 0, 0)), .int (nI d), .int (nI e), .int (nI q), .int w] exA := by
  intro sz
  obtain ⟨hn, hn10, hmk⟩ := id hB
  refine x_ofX (by decide +kernel) (Nat.le_of_ble_eq_true rfl) (fun pp ee s mm bel meth cd ls X htab hz h hl => ?_)
  subst hz
  obtain ⟨hx, hb, hmaxL, hown, hts⟩ := id X.1
  have hl : lv_has ls 6 [(0, .ref (ad (0, 0, 0, 0))), (1, .int (nI d)), (2, .int (nI e)), (3, .int (nI q)), (4, .int w)] := hl
  refine lv_aload_n hx hb dX6_share_0 rfl (lv_at hl 0 rfl) ?_
  refine gf_BraidBook_books X h (hL (0, 0, 0, 0) ⟨rfl, rfl, rfl⟩) q188 dX6_share_1 ?_
  refine lv_iload_n hx hb dX6_share_4 rfl (lv_at hl 1 rfl) ?_
  refine lv_iload_n hx hb dX6_share_5 rfl (lv_at hl 2 rfl) ?_
  refine x_doneA X h (x_runS X h (m_X6_knownEntry I 0 hL hG (by omega) n mcs hB d e (by omega) (by omega) hk _) F_X6_knownEntry q426 q427 rfl (by decide) (by decide) ⟨by decide, by decide⟩ hl.1 (Nat.le_of_ble_eq_true rfl) dX6_share_6 rfl) (fun H locs h => ?_)
  refine lv_astore (lv' := [(5, .ref (ad (4, 0, e, 0))), (0, .ref (ad (0, 0, 0, 0))), (1, .int (nI d)), (2, .int (nI e)), (3, .int (nI q)), (4, .int w)]) hx hb dX6_share_9 hl (by decide) rfl (fun ls hl => ?_)
  refine lv_iload_n hx hb dX6_share_11 rfl (lv_at hl 4 rfl) ?_
  refine x_doneI X h (x_runS X h (m_X6_isPerson_in I q (by omega) _) F_X6_isPerson q587 q588 rfl (by decide) (by decide) ⟨by decide, by decide⟩ hl.1 (Nat.le_of_ble_eq_true rfl) dX6_share_12 rfl) (fun H locs h => ?_)
  refine b_if_ne (tgt := 28) hx hb dX6_share_15 (by decide) (fun _ => ?_) (fun c => (Bool.noConfusion c))
  refine lv_iload hx hb dX6_share_28 (lv_at hl 5 rfl) ?_
  refine lv_if_lt (tgt := 40) hx hb dX6_share_30 (by decide) (fun c_30 => ?_) (fun c_30 => ?_)
  · skip
    exact x_throw X h hst EX_A t591 hl.1 htab dX6_share_40 dX6_share_43 dX6_share_44 dX6_share_46 dX6_share_49 (by decide) (by decide) (by decide) (by decide) (by decide) (by decide)
  · skip
    refine lv_iload hx hb dX6_share_33 (lv_at hl 5 rfl) ?_
    refine lv_bipush (v := nI 15) hx hb dX6_share_35 (by decide) ?_
    refine lv_icmp_le (tgt := 50) hx hb dX6_share_37 (by decide) (fun c_37 => ?_) (fun c_37 => ?_)
    · skip
      exact absurd c_37 (inR_f hw c_30)
    · skip
      exact x_throw X h hst EX_A t591 hl.1 htab dX6_share_40 dX6_share_43 dX6_share_44 dX6_share_46 dX6_share_49 (by decide) (by decide) (by decide) (by decide) (by decide) (by decide)

set_option maxHeartbeats 4000000 in
set_option maxRecDepth 100000 in
theorem x_X6_share_3a {l : Launch} {D : va_G} {tc : TC} {dz : Nat} {ad : KN → Nat} {Ks : List KN} {gm : GM} (I : Mem) (hst : l.stackTraces = false) (hL : LV gm Ks) (hG : GMok gm) (n : Nat) (mcs : Nat → Nat) (hB : BK gm I 0 n mcs) (d e q : Nat) (hd : d < 6) (hen : e < n) (hq : q < 3) (hk : nz (I (9, 0, e, d) 0) = true) (w : Int32) (hw : inR w (nI 0) (nI 15) = true) (how : I (4, 0, e, 0) 0 ≠ nI (d / 2)) : MX l yX6_share cX6_share 6 (Option.some ClassFile.FieldType.int) 9 D tc dz ad Ks (lay tc ad gm dz I) [.ref (ad (0, 0, 0, 0)), .int (nI d), .int (nI e), .int (nI q), .int w] exS := by
  intro sz
  obtain ⟨hn, hn10, hmk⟩ := id hB; have hw12 := inR_t hw
  refine x_ofX (by decide +kernel) (Nat.le_of_ble_eq_true rfl) (fun pp ee s mm bel meth cd ls X htab hz h hl => ?_)
  subst hz
  obtain ⟨hx, hb, hmaxL, hown, hts⟩ := id X.1
  have hl : lv_has ls 6 [(0, .ref (ad (0, 0, 0, 0))), (1, .int (nI d)), (2, .int (nI e)), (3, .int (nI q)), (4, .int w)] := hl
  refine lv_aload_n hx hb dX6_share_0 rfl (lv_at hl 0 rfl) ?_
  refine gf_BraidBook_books X h (hL (0, 0, 0, 0) ⟨rfl, rfl, rfl⟩) q188 dX6_share_1 ?_
  refine lv_iload_n hx hb dX6_share_4 rfl (lv_at hl 1 rfl) ?_
  refine lv_iload_n hx hb dX6_share_5 rfl (lv_at hl 2 rfl) ?_
  refine x_doneA X h (x_runS X h (m_X6_knownEntry I 0 hL hG (by omega) n mcs hB d e (by omega) (by omega) hk _) F_X6_knownEntry q426 q427 rfl (by decide) (by decide) ⟨by decide, by decide⟩ hl.1 (Nat.le_of_ble_eq_true rfl) dX6_share_6 rfl) (fun H locs h => ?_)
  refine lv_astore (lv' := [(5, .ref (ad (4, 0, e, 0))), (0, .ref (ad (0, 0, 0, 0))), (1, .int (nI d)), (2, .int (nI e)), (3, .int (nI q)), (4, .int w)]) hx hb dX6_share_9 hl (by decide) rfl (fun ls hl => ?_)
  refine lv_iload_n hx hb dX6_share_11 rfl (lv_at hl 4 rfl) ?_
  refine x_doneI X h (x_runS X h (m_X6_isPerson_in I q (by omega) _) F_X6_isPerson q587 q588 rfl (by decide) (by decide) ⟨by decide, by decide⟩ hl.1 (Nat.le_of_ble_eq_true rfl) dX6_share_12 rfl) (fun H locs h => ?_)
  refine b_if_ne (tgt := 28) hx hb dX6_share_15 (by decide) (fun _ => ?_) (fun c => (Bool.noConfusion c))
  refine lv_iload hx hb dX6_share_28 (lv_at hl 5 rfl) ?_
  refine lv_if_lt (tgt := 40) hx hb dX6_share_30 (by decide) (fun c_30 => ?_) (fun c_30 => ?_)
  · skip
    exact absurd c_30 hw12.1
  · skip
    refine lv_iload hx hb dX6_share_33 (lv_at hl 5 rfl) ?_
    refine lv_bipush (v := nI 15) hx hb dX6_share_35 (by decide) ?_
    refine lv_icmp_le (tgt := 50) hx hb dX6_share_37 (by decide) (fun c_37 => ?_) (fun c_37 => ?_)
    · skip
      refine lv_aload hx hb dX6_share_50 (lv_at hl 0 rfl) ?_
      refine lv_iload_n hx hb dX6_share_52 rfl (lv_at hl 2 rfl) ?_
      refine x_xdone X h (x_xrunS X h (x_X6_requireOwner I hst 0 e d hL (by decide) (by omega) (by omega) how _) F_X6_requireOwner q480 q481 rfl (by decide) (by decide) ⟨by decide, by decide⟩ hl.1 (Nat.le_of_ble_eq_true rfl) dX6_share_53 rfl) (fun ce q9 H locs h hce hcv hcl => ?_)
      exact x_xout X h htab hce hcv hcl (by decide) (by decide)
    · skip
      exact absurd hw12.2 c_37

set_option maxHeartbeats 4000000 in
set_option maxRecDepth 100000 in
theorem x_X6_share_3b {l : Launch} {D : va_G} {tc : TC} {dz : Nat} {ad : KN → Nat} {Ks : List KN} {gm : GM} (I : Mem) (hst : l.stackTraces = false) (hL : LV gm Ks) (hG : GMok gm) (n : Nat) (mcs : Nat → Nat) (hB : BK gm I 0 n mcs) (d e q : Nat) (hd : d < 6) (hen : e < n) (hq : q < 3) (hk : nz (I (9, 0, e, d) 0) = true) (w : Int32) (hw : inR w (nI 0) (nI 15) = true) (how : I (4, 0, e, 0) 0 = nI (d / 2)) (hne : nI q = I (4, 0, e, 0) 0) : MX l yX6_share cX6_share 6 (Option.some ClassFile.FieldType.int) 9 D tc dz ad Ks (lay tc ad gm dz I) [.ref (ad (0, 0, 0, 0)), .int (nI d), .int (nI e), .int (nI q), .int w] exS := by
  intro sz
  obtain ⟨hn, hn10, hmk⟩ := id hB; have hw12 := inR_t hw
  refine x_ofX (by decide +kernel) (Nat.le_of_ble_eq_true rfl) (fun pp ee s mm bel meth cd ls X htab hz h hl => ?_)
  subst hz
  obtain ⟨hx, hb, hmaxL, hown, hts⟩ := id X.1
  have hl : lv_has ls 6 [(0, .ref (ad (0, 0, 0, 0))), (1, .int (nI d)), (2, .int (nI e)), (3, .int (nI q)), (4, .int w)] := hl
  refine lv_aload_n hx hb dX6_share_0 rfl (lv_at hl 0 rfl) ?_
  refine gf_BraidBook_books X h (hL (0, 0, 0, 0) ⟨rfl, rfl, rfl⟩) q188 dX6_share_1 ?_
  refine lv_iload_n hx hb dX6_share_4 rfl (lv_at hl 1 rfl) ?_
  refine lv_iload_n hx hb dX6_share_5 rfl (lv_at hl 2 rfl) ?_
  refine x_doneA X h (x_runS X h (m_X6_knownEntry I 0 hL hG (by omega) n mcs hB d e (by omega) (by omega) hk _) F_X6_knownEntry q426 q427 rfl (by decide) (by decide) ⟨by decide, by decide⟩ hl.1 (Nat.le_of_ble_eq_true rfl) dX6_share_6 rfl) (fun H locs h => ?_)
  refine lv_astore (lv' := [(5, .ref (ad (4, 0, e, 0))), (0, .ref (ad (0, 0, 0, 0))), (1, .int (nI d)), (2, .int (nI e)), (3, .int (nI q)), (4, .int w)]) hx hb dX6_share_9 hl (by decide) rfl (fun ls hl => ?_)
  refine lv_iload_n hx hb dX6_share_11 rfl (lv_at hl 4 rfl) ?_
  refine x_doneI X h (x_runS X h (m_X6_isPerson_in I q (by omega) _) F_X6_isPerson q587 q588 rfl (by decide) (by decide) ⟨by decide, by decide⟩ hl.1 (Nat.le_of_ble_eq_true rfl) dX6_share_12 rfl) (fun H locs h => ?_)
  refine b_if_ne (tgt := 28) hx hb dX6_share_15 (by decide) (fun _ => ?_) (fun c => (Bool.noConfusion c))
  refine lv_iload hx hb dX6_share_28 (lv_at hl 5 rfl) ?_
  refine lv_if_lt (tgt := 40) hx hb dX6_share_30 (by decide) (fun c_30 => ?_) (fun c_30 => ?_)
  · skip
    exact absurd c_30 hw12.1
  · skip
    refine lv_iload hx hb dX6_share_33 (lv_at hl 5 rfl) ?_
    refine lv_bipush (v := nI 15) hx hb dX6_share_35 (by decide) ?_
    refine lv_icmp_le (tgt := 50) hx hb dX6_share_37 (by decide) (fun c_37 => ?_) (fun c_37 => ?_)
    · skip
      refine lv_aload hx hb dX6_share_50 (lv_at hl 0 rfl) ?_
      refine lv_iload_n hx hb dX6_share_52 rfl (lv_at hl 2 rfl) ?_
      refine x_doneV X h (x_runS X h (m_X6_requireOwner I 0 e d hL (by omega) (by omega) (by omega) how _) F_X6_requireOwner q480 q481 rfl (by decide) (by decide) ⟨by decide, by decide⟩ hl.1 (Nat.le_of_ble_eq_true rfl) dX6_share_53 rfl) (fun H locs h => ?_)
      refine lv_iload_n hx hb dX6_share_56 rfl (lv_at hl 4 rfl) ?_
      refine lv_aload hx hb dX6_share_57 (lv_at hl 0 rfl) ?_
      refine gf_Entry_owner X h (hL (4, 0, e, 0) ⟨by omega, by omega, rfl⟩) q129 (v := I (4, 0, e, 0) 0) rfl dX6_share_59 ?_
      refine lv_icmp_ne (tgt := 75) hx hb dX6_share_62 (by decide) (fun c_62 => ?_) (fun c_62 => ?_)
      · skip
        exact absurd hne c_62
      · skip
        exact x_throw X h hst EX_S t592 hl.1 htab dX6_share_65 dX6_share_68 dX6_share_69 dX6_share_71 dX6_share_74 (by decide) (by decide) (by decide) (by decide) (by decide) (by decide)
    · skip
      exact absurd hw12.2 c_37

set_option maxHeartbeats 4000000 in
set_option maxRecDepth 100000 in
theorem m_X6_share {l : Launch} {D : va_G} {tc : TC} {dz : Nat} {ad : KN → Nat} {Ks : List KN} {gm : GM} (I : Mem) (hL : LV gm Ks) (hG : GMok gm) (n : Nat) (mcs : Nat → Nat) (hB : BK gm I 0 n mcs) (z : Nat) (hz5 : I (20, 0, 0, 0) 0 = nI z) (hz6 : z < 512) (d e q : Nat) (hd : d < 6) (hen : e < n) (hq : q < 3) (hk : nz (I (9, 0, e, d) 0) = true) (w : Int32) (hw : inR w (nI 0) (nI 15) = true) (how : I (4, 0, e, 0) 0 = nI (d / 2)) (hne : nI q ≠ I (4, 0, e, 0) 0) : MI l yX6_share cX6_share 6 (Option.some ClassFile.FieldType.int) 9 D tc dz ad Ks (lay tc ad gm dz I) [.ref (ad (0, 0, 0, 0)), .int (nI d), .int (nI e), .int (nI q), .int w] (I (5, 0, e, 0) q) (lay tc ad gm dz (shrM (jwM I z (nI 3) (nI e) (nI q) w (nI 0)) 0 e q w 6)) := by
  intro sz
  obtain ⟨hn, hn10, hmk⟩ := id hB; have hw12 := inR_t hw
  refine x_ofW (by decide +kernel) (Nat.le_of_ble_eq_true rfl) (fun pp ee s mm bel meth cd ls X hr hin hz h hl => ?_)
  subst hz
  obtain ⟨hx, hb, hmaxL, hown, hts⟩ := id X.1
  have hl : lv_has ls 6 [(0, .ref (ad (0, 0, 0, 0))), (1, .int (nI d)), (2, .int (nI e)), (3, .int (nI q)), (4, .int w)] := hl
  refine lv_aload_n hx hb dX6_share_0 rfl (lv_at hl 0 rfl) ?_
  refine gf_BraidBook_books X h (hL (0, 0, 0, 0) ⟨rfl, rfl, rfl⟩) q188 dX6_share_1 ?_
  refine lv_iload_n hx hb dX6_share_4 rfl (lv_at hl 1 rfl) ?_
  refine lv_iload_n hx hb dX6_share_5 rfl (lv_at hl 2 rfl) ?_
  refine x_doneA X h (x_runS X h (m_X6_knownEntry I 0 hL hG (by omega) n mcs hB d e (by omega) (by omega) hk _) F_X6_knownEntry q426 q427 rfl (by decide) (by decide) ⟨Nat.le_refl _, Nat.le_refl _⟩ hl.1 (Nat.le_of_ble_eq_true rfl) dX6_share_6 rfl) (fun H locs h => ?_)
  refine lv_astore (lv' := [(5, .ref (ad (4, 0, e, 0))), (0, .ref (ad (0, 0, 0, 0))), (1, .int (nI d)), (2, .int (nI e)), (3, .int (nI q)), (4, .int w)]) hx hb dX6_share_9 hl (by decide) rfl (fun ls hl => ?_)
  refine lv_iload_n hx hb dX6_share_11 rfl (lv_at hl 4 rfl) ?_
  refine x_doneI X h (x_runS X h (m_X6_isPerson_in I q (by omega) _) F_X6_isPerson q587 q588 rfl (by decide) (by decide) ⟨Nat.le_refl _, Nat.le_refl _⟩ hl.1 (Nat.le_of_ble_eq_true rfl) dX6_share_12 rfl) (fun H locs h => ?_)
  refine b_if_ne (tgt := 28) hx hb dX6_share_15 (by decide) (fun _ => ?_) (fun c => (Bool.noConfusion c))
  refine lv_iload hx hb dX6_share_28 (lv_at hl 5 rfl) ?_
  refine lv_if_lt (tgt := 40) hx hb dX6_share_30 (by decide) (fun c_30 => ?_) (fun c_30 => ?_)
  · skip
    exact absurd c_30 hw12.1
  · skip
    refine lv_iload hx hb dX6_share_33 (lv_at hl 5 rfl) ?_
    refine lv_bipush (v := nI 15) hx hb dX6_share_35 (by decide) ?_
    refine lv_icmp_le (tgt := 50) hx hb dX6_share_37 (by decide) (fun c_37 => ?_) (fun c_37 => ?_)
    · skip
      refine lv_aload hx hb dX6_share_50 (lv_at hl 0 rfl) ?_
      refine lv_iload_n hx hb dX6_share_52 rfl (lv_at hl 2 rfl) ?_
      refine x_doneV X h (x_runS X h (m_X6_requireOwner I 0 e d hL (by omega) (by omega) (by omega) how _) F_X6_requireOwner q480 q481 rfl (by decide) (by decide) ⟨Nat.le_refl _, Nat.le_refl _⟩ hl.1 (Nat.le_of_ble_eq_true rfl) dX6_share_53 rfl) (fun H locs h => ?_)
      refine lv_iload_n hx hb dX6_share_56 rfl (lv_at hl 4 rfl) ?_
      refine lv_aload hx hb dX6_share_57 (lv_at hl 0 rfl) ?_
      refine gf_Entry_owner X h (hL (4, 0, e, 0) ⟨by omega, by omega, rfl⟩) q129 (v := I (4, 0, e, 0) 0) rfl dX6_share_59 ?_
      refine lv_icmp_ne (tgt := 75) hx hb dX6_share_62 (by decide) (fun c_62 => ?_) (fun c_62 => ?_)
      · skip
        refine lv_aload_n hx hb dX6_share_75 rfl (lv_at hl 1 rfl) ?_
        refine x_doneV X h (x_runV X h (k := (0, 0, 0, 0)) (m_X6_requireRoomInJournal I hL z hz5 hz6 _) F_X6_requireRoomInJournal q402 q404 q1 (hL (0, 0, 0, 0) ⟨rfl, rfl, rfl⟩) rfl rfl rfl (by decide) (by decide) ⟨Nat.le_refl _, Nat.le_refl _⟩ hl.1 (Nat.le_of_ble_eq_true rfl) dX6_share_76 rfl) (fun H locs h => ?_)
        refine lv_aload_n hx hb dX6_share_79 rfl (lv_at hl 1 rfl) ?_
        refine gf_BraidBook_journal X h (hL (0, 0, 0, 0) ⟨rfl, rfl, rfl⟩) q190 dX6_share_80 ?_
        refine lv_iconst (v := nI 3) hx hb dX6_share_83 (by decide) ?_
        refine lv_iload_n hx hb dX6_share_84 rfl (lv_at hl 3 rfl) ?_
        refine lv_iload_n hx hb dX6_share_85 rfl (lv_at hl 4 rfl) ?_
        refine lv_iload hx hb dX6_share_86 (lv_at hl 5 rfl) ?_
        refine lv_iconst (v := nI 0) hx hb dX6_share_88 (by decide) ?_
        refine x_doneV X h (x_runV X h (k := (20, 0, 0, 0)) (m_X3_write I hL z hz5 hz6 (nI 3) (nI e) (nI q) w (nI 0) _) F_X3_write q411 q412 q413 (hL (20, 0, 0, 0) ⟨by decide, rfl, rfl, rfl⟩) rfl rfl rfl (by decide) (by decide) ⟨Nat.le_refl _, Nat.le_refl _⟩ hl.1 (Nat.le_of_ble_eq_true rfl) dX6_share_89 rfl) (fun H locs h => ?_)
        refine lv_aload_n hx hb dX6_share_92 rfl (lv_at hl 1 rfl) ?_
        refine gf_BraidBook_books X h (hL (0, 0, 0, 0) ⟨rfl, rfl, rfl⟩) q188 dX6_share_93 ?_
        refine lv_iload_n hx hb dX6_share_96 rfl (lv_at hl 3 rfl) ?_
        refine lv_iload_n hx hb dX6_share_97 rfl (lv_at hl 4 rfl) ?_
        refine lv_iload hx hb dX6_share_98 (lv_at hl 5 rfl) ?_
        refine x_doneI X h (x_runV X h (k := (1, 0, 0, 0)) (m_X0_shareFields (jwM I z (nI 3) (nI e) (nI q) w (nI 0)) 0 hL hG (by omega) n mcs (jw_BK hB) e q w (by omega) (by omega) _) F_X0_shareFields q593 q594 q595 (hL (1, 0, 0, 0) ⟨by omega, rfl, rfl⟩) rfl rfl rfl (by decide) (by decide) ⟨Nat.le_refl _, Nat.le_refl _⟩ hl.1 (Nat.le_of_ble_eq_true rfl) dX6_share_100 rfl) (fun H locs h => ?_)
        refine x_iret X h hr rfl ?_ (fun _ _ => rfl) dX6_share_103
        · rw [jw_see (by exact Nat.ne_of_beq_eq_false rfl) (by exact Nat.ne_of_beq_eq_false rfl) (by exact Nat.ne_of_beq_eq_false rfl) (by exact Nat.ne_of_beq_eq_false rfl) (by exact Nat.ne_of_beq_eq_false rfl) (by exact Nat.ne_of_beq_eq_false rfl)]
      · skip
        exact absurd c_62 hne
    · skip
      exact absurd hw12.2 c_37

set_option maxHeartbeats 4000000 in
set_option maxRecDepth 100000 in
theorem x_X6_merge_1a {l : Launch} {D : va_G} {tc : TC} {dz : Nat} {ad : KN → Nat} {Ks : List KN} {gm : GM} (I : Mem) (hst : l.stackTraces = false) (hL : LV gm Ks) (hG : GMok gm) (n : Nat) (mcs : Nat → Nat) (hB : BK gm I 0 n mcs) (x y : Int32) (h0 : isDev x = false) : MX l yX6_merge cX6_merge 3 (Option.some ClassFile.FieldType.int) 9 D tc dz ad Ks (lay tc ad gm dz I) [.ref (ad (0, 0, 0, 0)), .int x, .int y] exI := by
  intro sz
  obtain ⟨hn, hn10, hmk⟩ := id hB
  refine x_ofX (by decide +kernel) (Nat.le_of_ble_eq_true rfl) (fun pp ee s mm bel meth cd ls X htab hz h hl => ?_)
  subst hz
  obtain ⟨hx, hb, hmaxL, hown, hts⟩ := id X.1
  have hl : lv_has ls 3 [(0, .ref (ad (0, 0, 0, 0))), (1, .int x), (2, .int y)] := hl
  refine lv_iload_n hx hb dX6_merge_0 rfl (lv_at hl 1 rfl) ?_
  refine x_xdone X h (x_xrunS X h (x_X6_requireDevice I hst x h0 _) F_X6_requireDevice q202 q203 rfl (by decide) (by decide) ⟨by decide, by decide⟩ hl.1 (Nat.le_of_ble_eq_true rfl) dX6_merge_1 rfl) (fun ce q9 H locs h hce hcv hcl => ?_)
  exact x_xout X h htab hce hcv hcl (by decide) (by decide)

set_option maxHeartbeats 4000000 in
set_option maxRecDepth 100000 in
theorem x_X6_merge_1b {l : Launch} {D : va_G} {tc : TC} {dz : Nat} {ad : KN → Nat} {Ks : List KN} {gm : GM} (I : Mem) (hst : l.stackTraces = false) (hL : LV gm Ks) (hG : GMok gm) (n : Nat) (mcs : Nat → Nat) (hB : BK gm I 0 n mcs) (d : Nat) (hd : d < 6) (y : Int32) (h0 : isDev y = false) : MX l yX6_merge cX6_merge 3 (Option.some ClassFile.FieldType.int) 9 D tc dz ad Ks (lay tc ad gm dz I) [.ref (ad (0, 0, 0, 0)), .int (nI d), .int y] exI := by
  intro sz
  obtain ⟨hn, hn10, hmk⟩ := id hB
  refine x_ofX (by decide +kernel) (Nat.le_of_ble_eq_true rfl) (fun pp ee s mm bel meth cd ls X htab hz h hl => ?_)
  subst hz
  obtain ⟨hx, hb, hmaxL, hown, hts⟩ := id X.1
  have hl : lv_has ls 3 [(0, .ref (ad (0, 0, 0, 0))), (1, .int (nI d)), (2, .int y)] := hl
  refine lv_iload_n hx hb dX6_merge_0 rfl (lv_at hl 1 rfl) ?_
  refine x_doneV X h (x_runS X h (m_X6_requireDevice I d (by omega) _) F_X6_requireDevice q202 q203 rfl (by decide) (by decide) ⟨by decide, by decide⟩ hl.1 (Nat.le_of_ble_eq_true rfl) dX6_merge_1 rfl) (fun H locs h => ?_)
  refine lv_iload_n hx hb dX6_merge_4 rfl (lv_at hl 2 rfl) ?_
  refine x_xdone X h (x_xrunS X h (x_X6_requireDevice I hst y h0 _) F_X6_requireDevice q202 q203 rfl (by decide) (by decide) ⟨by decide, by decide⟩ hl.1 (Nat.le_of_ble_eq_true rfl) dX6_merge_5 rfl) (fun ce q9 H locs h hce hcv hcl => ?_)
  exact x_xout X h htab hce hcv hcl (by decide) (by decide)

theorem x_X6_merge_1 {l : Launch} {D : va_G} {tc : TC} {dz : Nat} {ad : KN → Nat} {Ks : List KN} {gm : GM} (I : Mem) (hst : l.stackTraces = false) (hL : LV gm Ks) (hG : GMok gm) (n : Nat) (mcs : Nat → Nat) (hB : BK gm I 0 n mcs) (x y : Int32) (h0 : (isDev x && isDev y) = false) : MX l yX6_merge cX6_merge 3 (some .int) 9 D tc dz ad Ks (lay tc ad gm dz I) [.ref (ad (0, 0, 0, 0)), .int x, .int y] exI := by
  cases hc : isDev x with
  | false => exact x_X6_merge_1a I hst hL hG n mcs hB x y hc
  | true =>
    obtain ⟨d, hd, rfl⟩ := isDev_of hc
    rw [hc, Bool.true_and] at h0
    exact x_X6_merge_1b I hst hL hG n mcs hB d hd y h0

set_option maxHeartbeats 4000000 in
set_option maxRecDepth 100000 in
theorem x_X6_merge_2 {l : Launch} {D : va_G} {tc : TC} {dz : Nat} {ad : KN → Nat} {Ks : List KN} {gm : GM} (I : Mem) (hst : l.stackTraces = false) (hL : LV gm Ks) (hG : GMok gm) (n : Nat) (mcs : Nat → Nat) (hB : BK gm I 0 n mcs) (d d2 : Nat) (hd : d < 6) (hd2 : d2 < 6) (hne : d = d2) : MX l yX6_merge cX6_merge 3 (Option.some ClassFile.FieldType.int) 9 D tc dz ad Ks (lay tc ad gm dz I) [.ref (ad (0, 0, 0, 0)), .int (nI d), .int (nI d2)] exA := by
  intro sz
  obtain ⟨hn, hn10, hmk⟩ := id hB
  refine x_ofX (by decide +kernel) (Nat.le_of_ble_eq_true rfl) (fun pp ee s mm bel meth cd ls X htab hz h hl => ?_)
  subst hz
  obtain ⟨hx, hb, hmaxL, hown, hts⟩ := id X.1
  have hl : lv_has ls 3 [(0, .ref (ad (0, 0, 0, 0))), (1, .int (nI d)), (2, .int (nI d2))] := hl
  refine lv_iload_n hx hb dX6_merge_0 rfl (lv_at hl 1 rfl) ?_
  refine x_doneV X h (x_runS X h (m_X6_requireDevice I d (by omega) _) F_X6_requireDevice q202 q203 rfl (by decide) (by decide) ⟨by decide, by decide⟩ hl.1 (Nat.le_of_ble_eq_true rfl) dX6_merge_1 rfl) (fun H locs h => ?_)
  refine lv_iload_n hx hb dX6_merge_4 rfl (lv_at hl 2 rfl) ?_
  refine x_doneV X h (x_runS X h (m_X6_requireDevice I d2 (by omega) _) F_X6_requireDevice q202 q203 rfl (by decide) (by decide) ⟨by decide, by decide⟩ hl.1 (Nat.le_of_ble_eq_true rfl) dX6_merge_5 rfl) (fun H locs h => ?_)
  refine lv_iload_n hx hb dX6_merge_8 rfl (lv_at hl 1 rfl) ?_
  refine lv_iload_n hx hb dX6_merge_9 rfl (lv_at hl 2 rfl) ?_
  refine n_icmp_ne (tgt := 23) hx hb (by omega) (by omega) dX6_merge_10 (by decide) (fun c_10 => ?_) (fun c_10 => ?_)
  · skip
    exact absurd hne c_10
  · skip
    exact x_throw X h hst EX_A t607 hl.1 htab dX6_merge_13 dX6_merge_16 dX6_merge_17 dX6_merge_19 dX6_merge_22 (by decide) (by decide) (by decide) (by decide) (by decide) (by decide)

set_option maxHeartbeats 4000000 in
set_option maxRecDepth 100000 in
theorem m_X6_merge {l : Launch} {D : va_G} {tc : TC} {dz : Nat} {ad : KN → Nat} {Ks : List KN} {gm : GM} (I : Mem) (hL : LV gm Ks) (hG : GMok gm) (n : Nat) (mcs : Nat → Nat) (hB : BK gm I 0 n mcs) (z : Nat) (hz5 : I (20, 0, 0, 0) 0 = nI z) (hz6 : z < 512) (d d2 : Nat) (hd : d < 6) (hd2 : d2 < 6) (hne : d ≠ d2) : MI l yX6_merge cX6_merge 3 (Option.some ClassFile.FieldType.int) 9 D tc dz ad Ks (lay tc ad gm dz I) [.ref (ad (0, 0, 0, 0)), .int (nI d), .int (nI d2)] (mgdR (jwM I z (nI 4) (nI d) (nI d2) (nI 0) (nI 0)) 0 d d2 mcs n) (lay tc ad gm dz (mgdM (jwM I z (nI 4) (nI d) (nI d2) (nI 0) (nI 0)) 0 d d2 mcs n)) := by
  intro sz
  obtain ⟨hn, hn10, hmk⟩ := id hB
  refine x_ofW (by decide +kernel) (Nat.le_of_ble_eq_true rfl) (fun pp ee s mm bel meth cd ls X hr hin hz h hl => ?_)
  subst hz
  obtain ⟨hx, hb, hmaxL, hown, hts⟩ := id X.1
  have hl : lv_has ls 3 [(0, .ref (ad (0, 0, 0, 0))), (1, .int (nI d)), (2, .int (nI d2))] := hl
  refine lv_iload_n hx hb dX6_merge_0 rfl (lv_at hl 1 rfl) ?_
  refine x_doneV X h (x_runS X h (m_X6_requireDevice I d (by omega) _) F_X6_requireDevice q202 q203 rfl (by decide) (by decide) ⟨Nat.le_refl _, Nat.le_refl _⟩ hl.1 (Nat.le_of_ble_eq_true rfl) dX6_merge_1 rfl) (fun H locs h => ?_)
  refine lv_iload_n hx hb dX6_merge_4 rfl (lv_at hl 2 rfl) ?_
  refine x_doneV X h (x_runS X h (m_X6_requireDevice I d2 (by omega) _) F_X6_requireDevice q202 q203 rfl (by decide) (by decide) ⟨Nat.le_refl _, Nat.le_refl _⟩ hl.1 (Nat.le_of_ble_eq_true rfl) dX6_merge_5 rfl) (fun H locs h => ?_)
  refine lv_iload_n hx hb dX6_merge_8 rfl (lv_at hl 1 rfl) ?_
  refine lv_iload_n hx hb dX6_merge_9 rfl (lv_at hl 2 rfl) ?_
  refine n_icmp_ne (tgt := 23) hx hb (by omega) (by omega) dX6_merge_10 (by decide) (fun c_10 => ?_) (fun c_10 => ?_)
  · skip
    refine lv_aload_n hx hb dX6_merge_23 rfl (lv_at hl 0 rfl) ?_
    refine gf_BraidBook_journal X h (hL (0, 0, 0, 0) ⟨rfl, rfl, rfl⟩) q190 dX6_merge_24 ?_
    refine x_doneI X h (x_runV X h (k := (20, 0, 0, 0)) (m_X3_isFull I hL z hz5 hz6 _) F_X3_isFull q406 q407 q408 (hL (20, 0, 0, 0) ⟨by decide, rfl, rfl, rfl⟩) rfl rfl rfl (by decide) (by decide) ⟨Nat.le_refl _, Nat.le_refl _⟩ hl.1 (Nat.le_of_ble_eq_true rfl) dX6_merge_27 rfl) (fun H locs h => ?_)
    refine b_if_eq (tgt := 35) hx hb dX6_merge_30 (by decide) (fun _ => ?_) (fun c => (Bool.noConfusion c))
    refine lv_aload_n hx hb dX6_merge_35 rfl (lv_at hl 0 rfl) ?_
    refine gf_BraidBook_journal X h (hL (0, 0, 0, 0) ⟨rfl, rfl, rfl⟩) q190 dX6_merge_36 ?_
    refine lv_iconst (v := nI 4) hx hb dX6_merge_39 (by decide) ?_
    refine lv_iload_n hx hb dX6_merge_40 rfl (lv_at hl 1 rfl) ?_
    refine lv_iload_n hx hb dX6_merge_41 rfl (lv_at hl 2 rfl) ?_
    refine lv_iconst (v := nI 0) hx hb dX6_merge_42 (by decide) ?_
    refine lv_iconst (v := nI 0) hx hb dX6_merge_43 (by decide) ?_
    refine x_doneV X h (x_runV X h (k := (20, 0, 0, 0)) (m_X3_write I hL z hz5 hz6 (nI 4) (nI d) (nI d2) (nI 0) (nI 0) _) F_X3_write q411 q412 q413 (hL (20, 0, 0, 0) ⟨by decide, rfl, rfl, rfl⟩) rfl rfl rfl (by decide) (by decide) ⟨Nat.le_refl _, Nat.le_refl _⟩ hl.1 (Nat.le_of_ble_eq_true rfl) dX6_merge_44 rfl) (fun H locs h => ?_)
    refine lv_aload_n hx hb dX6_merge_47 rfl (lv_at hl 0 rfl) ?_
    refine gf_BraidBook_books X h (hL (0, 0, 0, 0) ⟨rfl, rfl, rfl⟩) q188 dX6_merge_48 ?_
    refine lv_iload_n hx hb dX6_merge_51 rfl (lv_at hl 1 rfl) ?_
    refine lv_iload_n hx hb dX6_merge_52 rfl (lv_at hl 2 rfl) ?_
    refine x_doneI X h (x_runV X h (k := (1, 0, 0, 0)) (m_X0_mergeDevices (jwM I z (nI 4) (nI d) (nI d2) (nI 0) (nI 0)) 0 hL hG (by omega) n mcs (jw_BK hB) d d2 (by omega) (by omega) hne _) F_X0_mergeDevices q608 q609 q610 (hL (1, 0, 0, 0) ⟨by omega, rfl, rfl⟩) rfl rfl rfl (by decide) (by decide) ⟨Nat.le_refl _, Nat.le_refl _⟩ hl.1 (Nat.le_of_ble_eq_true rfl) dX6_merge_53 rfl) (fun H locs h => ?_)
    exact x_iret X h hr rfl rfl (fun _ _ => rfl) dX6_merge_56
  · skip
    exact absurd c_10 hne

set_option maxHeartbeats 4000000 in
set_option maxRecDepth 100000 in
theorem x_X6_pass_1 {l : Launch} {D : va_G} {tc : TC} {dz : Nat} {ad : KN → Nat} {Ks : List KN} {gm : GM} (I : Mem) (hst : l.stackTraces = false) (hL : LV gm Ks) (hG : GMok gm) (n : Nat) (mcs : Nat → Nat) (hB : BK gm I 0 n mcs) (w : Int32) (hw : inR w (nI 1) (nI 24) = false) : MX l yX6_pass cX6_pass 2 (Option.some ClassFile.FieldType.int) 9 D tc dz ad Ks (lay tc ad gm dz I) [.ref (ad (0, 0, 0, 0)), .int w] exA := by
  intro sz
  obtain ⟨hn, hn10, hmk⟩ := id hB
  refine x_ofX (by decide +kernel) (Nat.le_of_ble_eq_true rfl) (fun pp ee s mm bel meth cd ls X htab hz h hl => ?_)
  subst hz
  obtain ⟨hx, hb, hmaxL, hown, hts⟩ := id X.1
  have hl : lv_has ls 2 [(0, .ref (ad (0, 0, 0, 0))), (1, .int w)] := hl
  refine lv_iload_n hx hb dX6_pass_0 rfl (lv_at hl 1 rfl) ?_
  refine lv_iconst (v := nI 1) hx hb dX6_pass_1 (by decide) ?_
  refine lv_icmp_lt (tgt := 11) hx hb dX6_pass_2 (by decide) (fun c_2 => ?_) (fun c_2 => ?_)
  · skip
    exact x_throw X h hst EX_A t653 hl.1 htab dX6_pass_11 dX6_pass_14 dX6_pass_15 dX6_pass_17 dX6_pass_20 (by decide) (by decide) (by decide) (by decide) (by decide) (by decide)
  · skip
    refine lv_iload_n hx hb dX6_pass_5 rfl (lv_at hl 1 rfl) ?_
    refine lv_bipush (v := nI 24) hx hb dX6_pass_6 (by decide) ?_
    refine lv_icmp_le (tgt := 21) hx hb dX6_pass_8 (by decide) (fun c_8 => ?_) (fun c_8 => ?_)
    · skip
      exact absurd c_8 (inR_f hw c_2)
    · skip
      exact x_throw X h hst EX_A t653 hl.1 htab dX6_pass_11 dX6_pass_14 dX6_pass_15 dX6_pass_17 dX6_pass_20 (by decide) (by decide) (by decide) (by decide) (by decide) (by decide)

set_option maxHeartbeats 4000000 in
set_option maxRecDepth 100000 in
theorem m_X6_pass {l : Launch} {D : va_G} {tc : TC} {dz : Nat} {ad : KN → Nat} {Ks : List KN} {gm : GM} (I : Mem) (hL : LV gm Ks) (hG : GMok gm) (n : Nat) (mcs : Nat → Nat) (hB : BK gm I 0 n mcs) (z : Nat) (hz5 : I (20, 0, 0, 0) 0 = nI z) (hz6 : z < 512) (w : Int32) (hw : inR w (nI 1) (nI 24) = true) : MI l yX6_pass cX6_pass 2 (Option.some ClassFile.FieldType.int) 9 D tc dz ad Ks (lay tc ad gm dz I) [.ref (ad (0, 0, 0, 0)), .int w] (nI (pasN (jwM I z (nI 5) w (nI 0) (nI 0) (nI 0)) 0 mcs w n)) (lay tc ad gm dz (pasM (jwM I z (nI 5) w (nI 0) (nI 0) (nI 0)) 0 mcs w n)) := by
  intro sz
  obtain ⟨hn, hn10, hmk⟩ := id hB; have hw12 := inR_t hw
  refine x_ofW (by decide +kernel) (Nat.le_of_ble_eq_true rfl) (fun pp ee s mm bel meth cd ls X hr hin hz h hl => ?_)
  subst hz
  obtain ⟨hx, hb, hmaxL, hown, hts⟩ := id X.1
  have hl : lv_has ls 2 [(0, .ref (ad (0, 0, 0, 0))), (1, .int w)] := hl
  refine lv_iload_n hx hb dX6_pass_0 rfl (lv_at hl 1 rfl) ?_
  refine lv_iconst (v := nI 1) hx hb dX6_pass_1 (by decide) ?_
  refine lv_icmp_lt (tgt := 11) hx hb dX6_pass_2 (by decide) (fun c_2 => ?_) (fun c_2 => ?_)
  · skip
    exact absurd c_2 hw12.1
  · skip
    refine lv_iload_n hx hb dX6_pass_5 rfl (lv_at hl 1 rfl) ?_
    refine lv_bipush (v := nI 24) hx hb dX6_pass_6 (by decide) ?_
    refine lv_icmp_le (tgt := 21) hx hb dX6_pass_8 (by decide) (fun c_8 => ?_) (fun c_8 => ?_)
    · skip
      refine lv_aload_n hx hb dX6_pass_21 rfl (lv_at hl 0 rfl) ?_
      refine gf_BraidBook_journal X h (hL (0, 0, 0, 0) ⟨rfl, rfl, rfl⟩) q190 dX6_pass_22 ?_
      refine x_doneI X h (x_runV X h (k := (20, 0, 0, 0)) (m_X3_isFull I hL z hz5 hz6 _) F_X3_isFull q406 q407 q408 (hL (20, 0, 0, 0) ⟨by decide, rfl, rfl, rfl⟩) rfl rfl rfl (by decide) (by decide) ⟨Nat.le_refl _, Nat.le_refl _⟩ hl.1 (Nat.le_of_ble_eq_true rfl) dX6_pass_25 rfl) (fun H locs h => ?_)
      refine b_if_eq (tgt := 33) hx hb dX6_pass_28 (by decide) (fun _ => ?_) (fun c => (Bool.noConfusion c))
      refine lv_aload_n hx hb dX6_pass_33 rfl (lv_at hl 0 rfl) ?_
      refine gf_BraidBook_journal X h (hL (0, 0, 0, 0) ⟨rfl, rfl, rfl⟩) q190 dX6_pass_34 ?_
      refine lv_iconst (v := nI 5) hx hb dX6_pass_37 (by decide) ?_
      refine lv_iload_n hx hb dX6_pass_38 rfl (lv_at hl 1 rfl) ?_
      refine lv_iconst (v := nI 0) hx hb dX6_pass_39 (by decide) ?_
      refine lv_iconst (v := nI 0) hx hb dX6_pass_40 (by decide) ?_
      refine lv_iconst (v := nI 0) hx hb dX6_pass_41 (by decide) ?_
      refine x_doneV X h (x_runV X h (k := (20, 0, 0, 0)) (m_X3_write I hL z hz5 hz6 (nI 5) w (nI 0) (nI 0) (nI 0) _) F_X3_write q411 q412 q413 (hL (20, 0, 0, 0) ⟨by decide, rfl, rfl, rfl⟩) rfl rfl rfl (by decide) (by decide) ⟨Nat.le_refl _, Nat.le_refl _⟩ hl.1 (Nat.le_of_ble_eq_true rfl) dX6_pass_42 rfl) (fun H locs h => ?_)
      refine lv_aload_n hx hb dX6_pass_45 rfl (lv_at hl 0 rfl) ?_
      refine gf_BraidBook_books X h (hL (0, 0, 0, 0) ⟨rfl, rfl, rfl⟩) q188 dX6_pass_46 ?_
      refine lv_iload_n hx hb dX6_pass_49 rfl (lv_at hl 1 rfl) ?_
      refine x_doneI X h (x_runV X h (k := (1, 0, 0, 0)) (m_X0_passMonths (jwM I z (nI 5) w (nI 0) (nI 0) (nI 0)) 0 hL hG (by omega) n mcs (jw_BK hB) w _) F_X0_passMonths q654 q655 q656 (hL (1, 0, 0, 0) ⟨by omega, rfl, rfl⟩) rfl rfl rfl (by decide) (by decide) ⟨Nat.le_refl _, Nat.le_refl _⟩ hl.1 (Nat.le_of_ble_eq_true rfl) dX6_pass_50 rfl) (fun H locs h => ?_)
      exact x_iret X h hr rfl rfl (fun _ _ => rfl) dX6_pass_53
    · skip
      exact absurd hw12.2 c_8

set_option maxHeartbeats 4000000 in
set_option maxRecDepth 100000 in
theorem x_X6_state_1a {l : Launch} {D : va_G} {tc : TC} {dz : Nat} {ad : KN → Nat} {Ks : List KN} {gm : GM} (I : Mem) (hst : l.stackTraces = false) (hL : LV gm Ks) (hG : GMok gm) (n : Nat) (mcs : Nat → Nat) (hB : BK gm I 0 n mcs) (x y : Int32) (h0 : isDev x = false) : MX l yX6_state cX6_state 4 (Option.some ClassFile.FieldType.int) 9 D tc dz ad Ks (lay tc ad gm dz I) [.ref (ad (0, 0, 0, 0)), .int x, .int y] exI := by
  intro sz
  obtain ⟨hn, hn10, hmk⟩ := id hB
  refine x_ofX (by decide +kernel) (Nat.le_of_ble_eq_true rfl) (fun pp ee s mm bel meth cd ls X htab hz h hl => ?_)
  subst hz
  obtain ⟨hx, hb, hmaxL, hown, hts⟩ := id X.1
  have hl : lv_has ls 4 [(0, .ref (ad (0, 0, 0, 0))), (1, .int x), (2, .int y)] := hl
  refine lv_iload_n hx hb dX6_state_0 rfl (lv_at hl 1 rfl) ?_
  refine x_xdone X h (x_xrunS X h (x_X6_requireDevice I hst x h0 _) F_X6_requireDevice q202 q203 rfl (by decide) (by decide) ⟨by decide, by decide⟩ hl.1 (Nat.le_of_ble_eq_true rfl) dX6_state_1 rfl) (fun ce q9 H locs h hce hcv hcl => ?_)
  exact x_xout X h htab hce hcv hcl (by decide) (by decide)

set_option maxHeartbeats 4000000 in
set_option maxRecDepth 100000 in
theorem x_X6_state_1b {l : Launch} {D : va_G} {tc : TC} {dz : Nat} {ad : KN → Nat} {Ks : List KN} {gm : GM} (I : Mem) (hst : l.stackTraces = false) (hL : LV gm Ks) (hG : GMok gm) (n : Nat) (mcs : Nat → Nat) (hB : BK gm I 0 n mcs) (d : Nat) (hd : d < 6) (y : Int32) (hx0 : y < 0 ∨ nI n ≤ y) : MX l yX6_state cX6_state 4 (Option.some ClassFile.FieldType.int) 9 D tc dz ad Ks (lay tc ad gm dz I) [.ref (ad (0, 0, 0, 0)), .int (nI d), .int y] exI := by
  intro sz
  obtain ⟨hn, hn10, hmk⟩ := id hB
  refine x_ofX (by decide +kernel) (Nat.le_of_ble_eq_true rfl) (fun pp ee s mm bel meth cd ls X htab hz h hl => ?_)
  subst hz
  obtain ⟨hx, hb, hmaxL, hown, hts⟩ := id X.1
  have hl : lv_has ls 4 [(0, .ref (ad (0, 0, 0, 0))), (1, .int (nI d)), (2, .int y)] := hl
  refine lv_iload_n hx hb dX6_state_0 rfl (lv_at hl 1 rfl) ?_
  refine x_doneV X h (x_runS X h (m_X6_requireDevice I d (by omega) _) F_X6_requireDevice q202 q203 rfl (by decide) (by decide) ⟨by decide, by decide⟩ hl.1 (Nat.le_of_ble_eq_true rfl) dX6_state_1 rfl) (fun H locs h => ?_)
  refine lv_aload_n hx hb dX6_state_4 rfl (lv_at hl 0 rfl) ?_
  refine gf_BraidBook_books X h (hL (0, 0, 0, 0) ⟨rfl, rfl, rfl⟩) q188 dX6_state_5 ?_
  refine lv_iload_n hx hb dX6_state_8 rfl (lv_at hl 2 rfl) ?_
  refine x_doneR X h (x_runV X h (k := (1, 0, 0, 0)) (m_X0_find_out I 0 hL hG (by omega) n mcs hB y hx0 _) F_X0_find q429 q430 q431 (hL (1, 0, 0, 0) ⟨by omega, rfl, rfl⟩) rfl rfl rfl (by decide) (by decide) ⟨by decide, by decide⟩ hl.1 (Nat.le_of_ble_eq_true rfl) dX6_state_9 rfl) (fun H locs h => ?_)
  refine lv_astore_nN (lv' := [(3, .null), (0, .ref (ad (0, 0, 0, 0))), (1, .int (nI d)), (2, .int y)]) hx hb dX6_state_12 rfl hl (by decide) rfl (fun ls hl => ?_)
  refine lv_aload_nN hx hb dX6_state_13 rfl (lv_at hl 0 rfl) ?_
  refine lv_ifnonnullN hx hb dX6_state_14 ?_
  exact x_throw X h hst EX_I t674 hl.1 htab dX6_state_17 dX6_state_20 dX6_state_21 dX6_state_23 dX6_state_26 (by decide) (by decide) (by decide) (by decide) (by decide) (by decide)

theorem x_X6_state_1 {l : Launch} {D : va_G} {tc : TC} {dz : Nat} {ad : KN → Nat} {Ks : List KN} {gm : GM} (I : Mem) (hst : l.stackTraces = false) (hL : LV gm Ks) (hG : GMok gm) (n : Nat) (mcs : Nat → Nat) (hB : BK gm I 0 n mcs) (x y : Int32) (h0 : (isDev x && isEnt n y) = false) : MX l yX6_state cX6_state 4 (some .int) 9 D tc dz ad Ks (lay tc ad gm dz I) [.ref (ad (0, 0, 0, 0)), .int x, .int y] exI := by
  cases hc : isDev x with
  | false => exact x_X6_state_1a I hst hL hG n mcs hB x y hc
  | true =>
    obtain ⟨d, hd, rfl⟩ := isDev_of hc
    rw [hc, Bool.true_and] at h0
    exact x_X6_state_1b I hst hL hG n mcs hB d hd y (isEnt_out h0)

set_option maxHeartbeats 4000000 in
set_option maxRecDepth 100000 in
theorem m_X6_state {l : Launch} {D : va_G} {tc : TC} {dz : Nat} {ad : KN → Nat} {Ks : List KN} {gm : GM} (I : Mem) (hL : LV gm Ks) (hG : GMok gm) (n : Nat) (mcs : Nat → Nat) (hB : BK gm I 0 n mcs) (d e : Nat) (hd : d < 6) (hen : e < n) : MI l yX6_state cX6_state 4 (Option.some ClassFile.FieldType.int) 9 D tc dz ad Ks (lay tc ad gm dz I) [.ref (ad (0, 0, 0, 0)), .int (nI d), .int (nI e)] (nI (sto I 0 e d (mcs e))) (lay tc ad gm dz I) := by
  intro sz
  obtain ⟨hn, hn10, hmk⟩ := id hB
  refine x_ofW (by decide +kernel) (Nat.le_of_ble_eq_true rfl) (fun pp ee s mm bel meth cd ls X hr hin hz h hl => ?_)
  subst hz
  obtain ⟨hx, hb, hmaxL, hown, hts⟩ := id X.1
  have hl : lv_has ls 4 [(0, .ref (ad (0, 0, 0, 0))), (1, .int (nI d)), (2, .int (nI e))] := hl
  refine lv_iload_n hx hb dX6_state_0 rfl (lv_at hl 1 rfl) ?_
  refine x_doneV X h (x_runS X h (m_X6_requireDevice I d (by omega) _) F_X6_requireDevice q202 q203 rfl (by decide) (by decide) ⟨Nat.le_refl _, Nat.le_refl _⟩ hl.1 (Nat.le_of_ble_eq_true rfl) dX6_state_1 rfl) (fun H locs h => ?_)
  refine lv_aload_n hx hb dX6_state_4 rfl (lv_at hl 0 rfl) ?_
  refine gf_BraidBook_books X h (hL (0, 0, 0, 0) ⟨rfl, rfl, rfl⟩) q188 dX6_state_5 ?_
  refine lv_iload_n hx hb dX6_state_8 rfl (lv_at hl 2 rfl) ?_
  refine x_doneA X h (x_runV X h (k := (1, 0, 0, 0)) (m_X0_find_in I 0 hL hG (by omega) n mcs hB e (by omega) _) F_X0_find q429 q430 q431 (hL (1, 0, 0, 0) ⟨by omega, rfl, rfl⟩) rfl rfl rfl (by decide) (by decide) ⟨Nat.le_refl _, Nat.le_refl _⟩ hl.1 (Nat.le_of_ble_eq_true rfl) dX6_state_9 rfl) (fun H locs h => ?_)
  refine lv_astore_n (lv' := [(3, .ref (ad (4, 0, e, 0))), (0, .ref (ad (0, 0, 0, 0))), (1, .int (nI d)), (2, .int (nI e))]) hx hb dX6_state_12 rfl hl (by decide) rfl (fun ls hl => ?_)
  refine lv_aload_n hx hb dX6_state_13 rfl (lv_at hl 0 rfl) ?_
  refine lv_ifnonnull (tgt := 27) hx hb dX6_state_14 (by decide) ?_
  refine lv_aload_n hx hb dX6_state_27 rfl (lv_at hl 0 rfl) ?_
  refine lv_iload_n hx hb dX6_state_28 rfl (lv_at hl 2 rfl) ?_
  refine x_doneI X h (x_runV X h (k := (4, 0, e, 0)) (m_X2_stateOn I 0 e hL hG (by omega) (by omega) d (by omega) (mcs e) (hmk e (by omega)).1 (hmk e (by omega)).2 _) F_X2_stateOn q485 q281 q282 (hL (4, 0, e, 0) ⟨by omega, by omega, rfl⟩) rfl rfl rfl (by decide) (by decide) ⟨Nat.le_refl _, Nat.le_refl _⟩ hl.1 (Nat.le_of_ble_eq_true rfl) dX6_state_29 rfl) (fun H locs h => ?_)
  exact x_iret X h hr rfl rfl (fun _ _ => rfl) dX6_state_32

set_option maxHeartbeats 4000000 in
set_option maxRecDepth 100000 in
theorem m_X6_value {l : Launch} {D : va_G} {tc : TC} {dz : Nat} {ad : KN → Nat} {Ks : List KN} {gm : GM} (I : Mem) (hL : LV gm Ks) (hG : GMok gm) (n : Nat) (mcs : Nat → Nat) (hB : BK gm I 0 n mcs) (d e f : Nat) (hd : d < 6) (hen : e < n) (hf : f < 4) (hk : nz (I (9, 0, e, d) 0) = true) (j : Nat) (hj : j < cvF (I (10, 0, e, d)) f) : MI l yX6_value cX6_value 5 (Option.some ClassFile.FieldType.int) 9 D tc dz ad Ks (lay tc ad gm dz I) [.ref (ad (0, 0, 0, 0)), .int (nI d), .int (nI e), .int (nI f), .int (nI j)] (vFrom (I (10, 0, e, d)) (I (11, 0, e, d)) f 6 0 j) (lay tc ad gm dz I) := by
  intro sz
  obtain ⟨hn, hn10, hmk⟩ := id hB
  refine x_ofW (by decide +kernel) (Nat.le_of_ble_eq_true rfl) (fun pp ee s mm bel meth cd ls X hr hin hz h hl => ?_)
  subst hz
  obtain ⟨hx, hb, hmaxL, hown, hts⟩ := id X.1
  have hl : lv_has ls 5 [(0, .ref (ad (0, 0, 0, 0))), (1, .int (nI d)), (2, .int (nI e)), (3, .int (nI f)), (4, .int (nI j))] := hl
  refine lv_aload_n hx hb dX6_value_0 rfl (lv_at hl 0 rfl) ?_
  refine gf_BraidBook_books X h (hL (0, 0, 0, 0) ⟨rfl, rfl, rfl⟩) q188 dX6_value_1 ?_
  refine lv_iload_n hx hb dX6_value_4 rfl (lv_at hl 1 rfl) ?_
  refine lv_iload_n hx hb dX6_value_5 rfl (lv_at hl 2 rfl) ?_
  refine lv_iload_n hx hb dX6_value_6 rfl (lv_at hl 3 rfl) ?_
  refine lv_iload hx hb dX6_value_7 (lv_at hl 4 rfl) ?_
  refine x_doneI X h (x_runS X h (m_X6_valueIn I 0 hL hG (by omega) n mcs hB d e f (by omega) (by omega) (by omega) hk j hj _) F_X6_valueIn q679 q680 rfl (by decide) (by decide) ⟨Nat.le_refl _, Nat.le_refl _⟩ hl.1 (Nat.le_of_ble_eq_true rfl) dX6_value_9 rfl) (fun H locs h => ?_)
  exact x_iret X h hr rfl rfl (fun _ _ => rfl) dX6_value_12

set_option maxHeartbeats 4000000 in
set_option maxRecDepth 100000 in
theorem x_X6_value_1 {l : Launch} {D : va_G} {tc : TC} {dz : Nat} {ad : KN → Nat} {Ks : List KN} {gm : GM} (I : Mem) (hst : l.stackTraces = false) (hL : LV gm Ks) (hG : GMok gm) (n : Nat) (mcs : Nat → Nat) (hB : BK gm I 0 n mcs) (x y u w : Int32) (h0 : (ckn I 0 n x y && (isFld u && cix I 0 x y u w)) = false) : MX l yX6_value cX6_value 5 (Option.some ClassFile.FieldType.int) 9 D tc dz ad Ks (lay tc ad gm dz I) [.ref (ad (0, 0, 0, 0)), .int x, .int y, .int u, .int w] exI := by
  intro sz
  obtain ⟨hn, hn10, hmk⟩ := id hB
  refine x_ofX (by decide +kernel) (Nat.le_of_ble_eq_true rfl) (fun pp ee s mm bel meth cd ls X htab hz h hl => ?_)
  subst hz
  obtain ⟨hx, hb, hmaxL, hown, hts⟩ := id X.1
  have hl : lv_has ls 5 [(0, .ref (ad (0, 0, 0, 0))), (1, .int x), (2, .int y), (3, .int u), (4, .int w)] := hl
  refine lv_aload_n hx hb dX6_value_0 rfl (lv_at hl 0 rfl) ?_
  refine gf_BraidBook_books X h (hL (0, 0, 0, 0) ⟨rfl, rfl, rfl⟩) q188 dX6_value_1 ?_
  refine lv_iload_n hx hb dX6_value_4 rfl (lv_at hl 1 rfl) ?_
  refine lv_iload_n hx hb dX6_value_5 rfl (lv_at hl 2 rfl) ?_
  refine lv_iload_n hx hb dX6_value_6 rfl (lv_at hl 3 rfl) ?_
  refine lv_iload hx hb dX6_value_7 (lv_at hl 4 rfl) ?_
  refine x_xdone X h (x_xrunS X h (x_X6_valueIn I hst 0 hL hG (by decide) n mcs hB x y u w h0 _) F_X6_valueIn q679 q680 rfl (by decide) (by decide) ⟨by decide, by decide⟩ hl.1 (Nat.le_of_ble_eq_true rfl) dX6_value_9 rfl) (fun ce q9 H locs h hce hcv hcl => ?_)
  exact x_xout X h htab hce hcv hcl (by decide) (by decide)

set_option maxHeartbeats 4000000 in
set_option maxRecDepth 100000 in
theorem x_X6_values_1a {l : Launch} {D : va_G} {tc : TC} {dz : Nat} {ad : KN → Nat} {Ks : List KN} {gm : GM} (I : Mem) (hst : l.stackTraces = false) (hL : LV gm Ks) (hG : GMok gm) (n : Nat) (mcs : Nat → Nat) (hB : BK gm I 0 n mcs) (x y u : Int32) (h0 : ckn I 0 n x y = false) : MX l yX6_values cX6_values 5 (Option.some ClassFile.FieldType.int) 9 D tc dz ad Ks (lay tc ad gm dz I) [.ref (ad (0, 0, 0, 0)), .int x, .int y, .int u] exI := by
  intro sz
  obtain ⟨hn, hn10, hmk⟩ := id hB
  refine x_ofX (by decide +kernel) (Nat.le_of_ble_eq_true rfl) (fun pp ee s mm bel meth cd ls X htab hz h hl => ?_)
  subst hz
  obtain ⟨hx, hb, hmaxL, hown, hts⟩ := id X.1
  have hl : lv_has ls 5 [(0, .ref (ad (0, 0, 0, 0))), (1, .int x), (2, .int y), (3, .int u)] := hl
  refine lv_aload_n hx hb dX6_values_0 rfl (lv_at hl 0 rfl) ?_
  refine gf_BraidBook_books X h (hL (0, 0, 0, 0) ⟨rfl, rfl, rfl⟩) q188 dX6_values_1 ?_
  refine lv_iload_n hx hb dX6_values_4 rfl (lv_at hl 1 rfl) ?_
  refine lv_iload_n hx hb dX6_values_5 rfl (lv_at hl 2 rfl) ?_
  refine x_xdone X h (x_xrunS X h (x_X6_knownEntry I hst 0 hL hG (by decide) n mcs hB x y h0 _) F_X6_knownEntry q426 q427 rfl (by decide) (by decide) ⟨by decide, by decide⟩ hl.1 (Nat.le_of_ble_eq_true rfl) dX6_values_6 rfl) (fun ce q9 H locs h hce hcv hcl => ?_)
  exact x_xout X h htab hce hcv hcl (by decide) (by decide)

set_option maxHeartbeats 4000000 in
set_option maxRecDepth 100000 in
theorem x_X6_values_1b {l : Launch} {D : va_G} {tc : TC} {dz : Nat} {ad : KN → Nat} {Ks : List KN} {gm : GM} (I : Mem) (hst : l.stackTraces = false) (hL : LV gm Ks) (hG : GMok gm) (n : Nat) (mcs : Nat → Nat) (hB : BK gm I 0 n mcs) (d e : Nat) (hd : d < 6) (hen : e < n) (hk : nz (I (9, 0, e, d) 0) = true) (u : Int32) (h0 : isFld u = false) : MX l yX6_values cX6_values 5 (Option.some ClassFile.FieldType.int) 9 D tc dz ad Ks (lay tc ad gm dz I) [.ref (ad (0, 0, 0, 0)), .int (nI d), .int (nI e), .int u] exI := by
  intro sz
  obtain ⟨hn, hn10, hmk⟩ := id hB
  refine x_ofX (by decide +kernel) (Nat.le_of_ble_eq_true rfl) (fun pp ee s mm bel meth cd ls X htab hz h hl => ?_)
  subst hz
  obtain ⟨hx, hb, hmaxL, hown, hts⟩ := id X.1
  have hl : lv_has ls 5 [(0, .ref (ad (0, 0, 0, 0))), (1, .int (nI d)), (2, .int (nI e)), (3, .int u)] := hl
  refine lv_aload_n hx hb dX6_values_0 rfl (lv_at hl 0 rfl) ?_
  refine gf_BraidBook_books X h (hL (0, 0, 0, 0) ⟨rfl, rfl, rfl⟩) q188 dX6_values_1 ?_
  refine lv_iload_n hx hb dX6_values_4 rfl (lv_at hl 1 rfl) ?_
  refine lv_iload_n hx hb dX6_values_5 rfl (lv_at hl 2 rfl) ?_
  refine x_doneA X h (x_runS X h (m_X6_knownEntry I 0 hL hG (by omega) n mcs hB d e (by omega) (by omega) hk _) F_X6_knownEntry q426 q427 rfl (by decide) (by decide) ⟨by decide, by decide⟩ hl.1 (Nat.le_of_ble_eq_true rfl) dX6_values_6 rfl) (fun H locs h => ?_)
  refine lv_astore (lv' := [(4, .ref (ad (4, 0, e, 0))), (0, .ref (ad (0, 0, 0, 0))), (1, .int (nI d)), (2, .int (nI e)), (3, .int u)]) hx hb dX6_values_9 hl (by decide) rfl (fun ls hl => ?_)
  refine lv_iload_n hx hb dX6_values_11 rfl (lv_at hl 4 rfl) ?_
  refine x_xdone X h (x_xrunS X h (x_X6_requireField I hst u h0 _) F_X6_requireField q434 q435 rfl (by decide) (by decide) ⟨by decide, by decide⟩ hl.1 (Nat.le_of_ble_eq_true rfl) dX6_values_12 rfl) (fun ce q9 H locs h hce hcv hcl => ?_)
  exact x_xout X h htab hce hcv hcl (by decide) (by decide)

theorem x_X6_values_1 {l : Launch} {D : va_G} {tc : TC} {dz : Nat} {ad : KN → Nat} {Ks : List KN} {gm : GM} (I : Mem) (hst : l.stackTraces = false) (hL : LV gm Ks) (hG : GMok gm) (n : Nat) (mcs : Nat → Nat) (hB : BK gm I 0 n mcs) (x y u : Int32) (h0 : (ckn I 0 n x y && isFld u) = false) : MX l yX6_values cX6_values 5 (some .int) 9 D tc dz ad Ks (lay tc ad gm dz I) [.ref (ad (0, 0, 0, 0)), .int x, .int y, .int u] exI := by
  cases hc : ckn I 0 n x y with
  | false => exact x_X6_values_1a I hst hL hG n mcs hB x y u hc
  | true =>
    have hxy : isDev x = true ∧ isEnt n y = true := by
      unfold ckn at hc
      rw [Bool.and_eq_true, Bool.and_eq_true] at hc
      exact ⟨hc.1, hc.2.1⟩
    obtain ⟨d, hd, rfl⟩ := isDev_of hxy.1
    obtain ⟨e, he, rfl⟩ := isEnt_of hB.2.1 hxy.2
    have hk : nz (I (9, 0, e, d) 0) = true := by rw [← hc, ckn_nI hB.2.1 hd he]
    rw [hc, Bool.true_and] at h0
    exact x_X6_values_1b I hst hL hG n mcs hB d e hd he hk u h0

set_option maxHeartbeats 4000000 in
set_option maxRecDepth 100000 in
theorem m_X6_values {l : Launch} {D : va_G} {tc : TC} {dz : Nat} {ad : KN → Nat} {Ks : List KN} {gm : GM} (I : Mem) (hL : LV gm Ks) (hG : GMok gm) (n : Nat) (mcs : Nat → Nat) (hB : BK gm I 0 n mcs) (d e f : Nat) (hd : d < 6) (hen : e < n) (hf : f < 4) (hk : nz (I (9, 0, e, d) 0) = true) : MI l yX6_values cX6_values 5 (Option.some ClassFile.FieldType.int) 9 D tc dz ad Ks (lay tc ad gm dz I) [.ref (ad (0, 0, 0, 0)), .int (nI d), .int (nI e), .int (nI f)] (nI (cvF (I (10, 0, e, d)) f)) (lay tc ad gm dz I) := by
  intro sz
  obtain ⟨hn, hn10, hmk⟩ := id hB
  refine x_ofW (by decide +kernel) (Nat.le_of_ble_eq_true rfl) (fun pp ee s mm bel meth cd ls X hr hin hz h hl => ?_)
  subst hz
  obtain ⟨hx, hb, hmaxL, hown, hts⟩ := id X.1
  have hl : lv_has ls 5 [(0, .ref (ad (0, 0, 0, 0))), (1, .int (nI d)), (2, .int (nI e)), (3, .int (nI f))] := hl
  refine lv_aload_n hx hb dX6_values_0 rfl (lv_at hl 0 rfl) ?_
  refine gf_BraidBook_books X h (hL (0, 0, 0, 0) ⟨rfl, rfl, rfl⟩) q188 dX6_values_1 ?_
  refine lv_iload_n hx hb dX6_values_4 rfl (lv_at hl 1 rfl) ?_
  refine lv_iload_n hx hb dX6_values_5 rfl (lv_at hl 2 rfl) ?_
  refine x_doneA X h (x_runS X h (m_X6_knownEntry I 0 hL hG (by omega) n mcs hB d e (by omega) (by omega) hk _) F_X6_knownEntry q426 q427 rfl (by decide) (by decide) ⟨Nat.le_refl _, Nat.le_refl _⟩ hl.1 (Nat.le_of_ble_eq_true rfl) dX6_values_6 rfl) (fun H locs h => ?_)
  refine lv_astore (lv' := [(4, .ref (ad (4, 0, e, 0))), (0, .ref (ad (0, 0, 0, 0))), (1, .int (nI d)), (2, .int (nI e)), (3, .int (nI f))]) hx hb dX6_values_9 hl (by decide) rfl (fun ls hl => ?_)
  refine lv_iload_n hx hb dX6_values_11 rfl (lv_at hl 4 rfl) ?_
  refine x_doneV X h (x_runS X h (m_X6_requireField I f (by omega) _) F_X6_requireField q434 q435 rfl (by decide) (by decide) ⟨Nat.le_refl _, Nat.le_refl _⟩ hl.1 (Nat.le_of_ble_eq_true rfl) dX6_values_12 rfl) (fun H locs h => ?_)
  refine lv_aload hx hb dX6_values_15 (lv_at hl 0 rfl) ?_
  refine gf_Entry_copies X h (hL (4, 0, e, 0) ⟨by omega, by omega, rfl⟩) q135 dX6_values_17 ?_
  refine lv_iload_n hx hb dX6_values_20 rfl (lv_at hl 2 rfl) ?_
  refine ra_copies X h (hL (6, 0, e, 0) ⟨by omega, by omega, rfl⟩) (j := d) (by omega) dX6_values_21 ?_
  refine lv_iload_n hx hb dX6_values_22 rfl (lv_at hl 4 rfl) ?_
  refine x_doneI X h (x_runV X h (k := (9, 0, e, d)) (m_X1_countValues I 0 e d hL (by omega) (by omega) (by omega) f (by omega) _) F_X1_countValues q682 q324 q325 (hL (9, 0, e, d) ⟨by omega, by omega, by omega⟩) rfl rfl rfl (by decide) (by decide) ⟨Nat.le_refl _, Nat.le_refl _⟩ hl.1 (Nat.le_of_ble_eq_true rfl) dX6_values_23 rfl) (fun H locs h => ?_)
  exact x_iret X h hr rfl rfl (fun _ _ => rfl) dX6_values_26

set_option maxHeartbeats 4000000 in
set_option maxRecDepth 100000 in
theorem x_X6_seen_1a {l : Launch} {D : va_G} {tc : TC} {dz : Nat} {ad : KN → Nat} {Ks : List KN} {gm : GM} (I : Mem) (hst : l.stackTraces = false) (hL : LV gm Ks) (hG : GMok gm) (n : Nat) (mcs : Nat → Nat) (hB : BK gm I 0 n mcs) (x y u w : Int32) (h0 : ckn I 0 n x y = false) : MX l yX6_seen cX6_seen 6 (Option.some ClassFile.FieldType.int) 9 D tc dz ad Ks (lay tc ad gm dz I) [.ref (ad (0, 0, 0, 0)), .int x, .int y, .int u, .int w] exI := by
  intro sz
  obtain ⟨hn, hn10, hmk⟩ := id hB
  refine x_ofX (by decide +kernel) (Nat.le_of_ble_eq_true rfl) (fun pp ee s mm bel meth cd ls X htab hz h hl => ?_)
  subst hz
  obtain ⟨hx, hb, hmaxL, hown, hts⟩ := id X.1
  have hl : lv_has ls 6 [(0, .ref (ad (0, 0, 0, 0))), (1, .int x), (2, .int y), (3, .int u), (4, .int w)] := hl
  refine lv_aload_n hx hb dX6_seen_0 rfl (lv_at hl 0 rfl) ?_
  refine gf_BraidBook_books X h (hL (0, 0, 0, 0) ⟨rfl, rfl, rfl⟩) q188 dX6_seen_1 ?_
  refine lv_iload_n hx hb dX6_seen_4 rfl (lv_at hl 1 rfl) ?_
  refine lv_iload_n hx hb dX6_seen_5 rfl (lv_at hl 2 rfl) ?_
  refine x_xdone X h (x_xrunS X h (x_X6_knownEntry I hst 0 hL hG (by decide) n mcs hB x y h0 _) F_X6_knownEntry q426 q427 rfl (by decide) (by decide) ⟨by decide, by decide⟩ hl.1 (Nat.le_of_ble_eq_true rfl) dX6_seen_6 rfl) (fun ce q9 H locs h hce hcv hcl => ?_)
  exact x_xout X h htab hce hcv hcl (by decide) (by decide)

set_option maxHeartbeats 4000000 in
set_option maxRecDepth 100000 in
theorem x_X6_seen_1b {l : Launch} {D : va_G} {tc : TC} {dz : Nat} {ad : KN → Nat} {Ks : List KN} {gm : GM} (I : Mem) (hst : l.stackTraces = false) (hL : LV gm Ks) (hG : GMok gm) (n : Nat) (mcs : Nat → Nat) (hB : BK gm I 0 n mcs) (d e : Nat) (hd : d < 6) (hen : e < n) (hk : nz (I (9, 0, e, d) 0) = true) (u w : Int32) (h0 : isFld u = false) : MX l yX6_seen cX6_seen 6 (Option.some ClassFile.FieldType.int) 9 D tc dz ad Ks (lay tc ad gm dz I) [.ref (ad (0, 0, 0, 0)), .int (nI d), .int (nI e), .int u, .int w] exI := by
  intro sz
  obtain ⟨hn, hn10, hmk⟩ := id hB
  refine x_ofX (by decide +kernel) (Nat.le_of_ble_eq_true rfl) (fun pp ee s mm bel meth cd ls X htab hz h hl => ?_)
  subst hz
  obtain ⟨hx, hb, hmaxL, hown, hts⟩ := id X.1
  have hl : lv_has ls 6 [(0, .ref (ad (0, 0, 0, 0))), (1, .int (nI d)), (2, .int (nI e)), (3, .int u), (4, .int w)] := hl
  refine lv_aload_n hx hb dX6_seen_0 rfl (lv_at hl 0 rfl) ?_
  refine gf_BraidBook_books X h (hL (0, 0, 0, 0) ⟨rfl, rfl, rfl⟩) q188 dX6_seen_1 ?_
  refine lv_iload_n hx hb dX6_seen_4 rfl (lv_at hl 1 rfl) ?_
  refine lv_iload_n hx hb dX6_seen_5 rfl (lv_at hl 2 rfl) ?_
  refine x_doneA X h (x_runS X h (m_X6_knownEntry I 0 hL hG (by omega) n mcs hB d e (by omega) (by omega) hk _) F_X6_knownEntry q426 q427 rfl (by decide) (by decide) ⟨by decide, by decide⟩ hl.1 (Nat.le_of_ble_eq_true rfl) dX6_seen_6 rfl) (fun H locs h => ?_)
  refine lv_astore (lv' := [(5, .ref (ad (4, 0, e, 0))), (0, .ref (ad (0, 0, 0, 0))), (1, .int (nI d)), (2, .int (nI e)), (3, .int u), (4, .int w)]) hx hb dX6_seen_9 hl (by decide) rfl (fun ls hl => ?_)
  refine lv_iload_n hx hb dX6_seen_11 rfl (lv_at hl 4 rfl) ?_
  refine x_xdone X h (x_xrunS X h (x_X6_requireField I hst u h0 _) F_X6_requireField q434 q435 rfl (by decide) (by decide) ⟨by decide, by decide⟩ hl.1 (Nat.le_of_ble_eq_true rfl) dX6_seen_12 rfl) (fun ce q9 H locs h hce hcv hcl => ?_)
  exact x_xout X h htab hce hcv hcl (by decide) (by decide)

set_option maxHeartbeats 4000000 in
set_option maxRecDepth 100000 in
theorem x_X6_seen_1c {l : Launch} {D : va_G} {tc : TC} {dz : Nat} {ad : KN → Nat} {Ks : List KN} {gm : GM} (I : Mem) (hst : l.stackTraces = false) (hL : LV gm Ks) (hG : GMok gm) (n : Nat) (mcs : Nat → Nat) (hB : BK gm I 0 n mcs) (d e f : Nat) (hd : d < 6) (hen : e < n) (hf : f < 4) (hk : nz (I (9, 0, e, d) 0) = true) (w : Int32) (h0 : isDev w = false) : MX l yX6_seen cX6_seen 6 (Option.some ClassFile.FieldType.int) 9 D tc dz ad Ks (lay tc ad gm dz I) [.ref (ad (0, 0, 0, 0)), .int (nI d), .int (nI e), .int (nI f), .int w] exI := by
  intro sz
  obtain ⟨hn, hn10, hmk⟩ := id hB
  refine x_ofX (by decide +kernel) (Nat.le_of_ble_eq_true rfl) (fun pp ee s mm bel meth cd ls X htab hz h hl => ?_)
  subst hz
  obtain ⟨hx, hb, hmaxL, hown, hts⟩ := id X.1
  have hl : lv_has ls 6 [(0, .ref (ad (0, 0, 0, 0))), (1, .int (nI d)), (2, .int (nI e)), (3, .int (nI f)), (4, .int w)] := hl
  refine lv_aload_n hx hb dX6_seen_0 rfl (lv_at hl 0 rfl) ?_
  refine gf_BraidBook_books X h (hL (0, 0, 0, 0) ⟨rfl, rfl, rfl⟩) q188 dX6_seen_1 ?_
  refine lv_iload_n hx hb dX6_seen_4 rfl (lv_at hl 1 rfl) ?_
  refine lv_iload_n hx hb dX6_seen_5 rfl (lv_at hl 2 rfl) ?_
  refine x_doneA X h (x_runS X h (m_X6_knownEntry I 0 hL hG (by omega) n mcs hB d e (by omega) (by omega) hk _) F_X6_knownEntry q426 q427 rfl (by decide) (by decide) ⟨by decide, by decide⟩ hl.1 (Nat.le_of_ble_eq_true rfl) dX6_seen_6 rfl) (fun H locs h => ?_)
  refine lv_astore (lv' := [(5, .ref (ad (4, 0, e, 0))), (0, .ref (ad (0, 0, 0, 0))), (1, .int (nI d)), (2, .int (nI e)), (3, .int (nI f)), (4, .int w)]) hx hb dX6_seen_9 hl (by decide) rfl (fun ls hl => ?_)
  refine lv_iload_n hx hb dX6_seen_11 rfl (lv_at hl 4 rfl) ?_
  refine x_doneV X h (x_runS X h (m_X6_requireField I f (by omega) _) F_X6_requireField q434 q435 rfl (by decide) (by decide) ⟨by decide, by decide⟩ hl.1 (Nat.le_of_ble_eq_true rfl) dX6_seen_12 rfl) (fun H locs h => ?_)
  refine lv_iload hx hb dX6_seen_15 (lv_at hl 5 rfl) ?_
  refine x_xdone X h (x_xrunS X h (x_X6_requireDevice I hst w h0 _) F_X6_requireDevice q202 q203 rfl (by decide) (by decide) ⟨by decide, by decide⟩ hl.1 (Nat.le_of_ble_eq_true rfl) dX6_seen_17 rfl) (fun ce q9 H locs h hce hcv hcl => ?_)
  exact x_xout X h htab hce hcv hcl (by decide) (by decide)

theorem x_X6_seen_1 {l : Launch} {D : va_G} {tc : TC} {dz : Nat} {ad : KN → Nat} {Ks : List KN} {gm : GM} (I : Mem) (hst : l.stackTraces = false) (hL : LV gm Ks) (hG : GMok gm) (n : Nat) (mcs : Nat → Nat) (hB : BK gm I 0 n mcs) (x y u w : Int32) (h0 : (ckn I 0 n x y && (isFld u && isDev w)) = false) : MX l yX6_seen cX6_seen 6 (some .int) 9 D tc dz ad Ks (lay tc ad gm dz I) [.ref (ad (0, 0, 0, 0)), .int x, .int y, .int u, .int w] exI := by
  cases hc : ckn I 0 n x y with
  | false => exact x_X6_seen_1a I hst hL hG n mcs hB x y u w hc
  | true =>
    have hxy : isDev x = true ∧ isEnt n y = true := by
      unfold ckn at hc
      rw [Bool.and_eq_true, Bool.and_eq_true] at hc
      exact ⟨hc.1, hc.2.1⟩
    obtain ⟨d, hd, rfl⟩ := isDev_of hxy.1
    obtain ⟨e, he, rfl⟩ := isEnt_of hB.2.1 hxy.2
    have hk : nz (I (9, 0, e, d) 0) = true := by rw [← hc, ckn_nI hB.2.1 hd he]
    rw [hc, Bool.true_and] at h0
    cases hu : isFld u with
    | false => exact x_X6_seen_1b I hst hL hG n mcs hB d e hd he hk u w hu
    | true =>
      obtain ⟨f, hf, rfl⟩ := isFld_of hu
      rw [hu, Bool.true_and] at h0
      exact x_X6_seen_1c I hst hL hG n mcs hB d e f hd he hf hk w h0

set_option maxHeartbeats 4000000 in
set_option maxRecDepth 100000 in
theorem m_X6_seen {l : Launch} {D : va_G} {tc : TC} {dz : Nat} {ad : KN → Nat} {Ks : List KN} {gm : GM} (I : Mem) (hL : LV gm Ks) (hG : GMok gm) (n : Nat) (mcs : Nat → Nat) (hB : BK gm I 0 n mcs) (d e f : Nat) (hd : d < 6) (hen : e < n) (hf : f < 4) (hk : nz (I (9, 0, e, d) 0) = true) (j : Nat) (hj : j < 6) : MI l yX6_seen cX6_seen 6 (Option.some ClassFile.FieldType.int) 9 D tc dz ad Ks (lay tc ad gm dz I) [.ref (ad (0, 0, 0, 0)), .int (nI d), .int (nI e), .int (nI f), .int (nI j)] (I (13, 0, e, d) (f * 6 + j)) (lay tc ad gm dz I) := by
  intro sz
  obtain ⟨hn, hn10, hmk⟩ := id hB
  refine x_ofW (by decide +kernel) (Nat.le_of_ble_eq_true rfl) (fun pp ee s mm bel meth cd ls X hr hin hz h hl => ?_)
  subst hz
  obtain ⟨hx, hb, hmaxL, hown, hts⟩ := id X.1
  have hl : lv_has ls 6 [(0, .ref (ad (0, 0, 0, 0))), (1, .int (nI d)), (2, .int (nI e)), (3, .int (nI f)), (4, .int (nI j))] := hl
  refine lv_aload_n hx hb dX6_seen_0 rfl (lv_at hl 0 rfl) ?_
  refine gf_BraidBook_books X h (hL (0, 0, 0, 0) ⟨rfl, rfl, rfl⟩) q188 dX6_seen_1 ?_
  refine lv_iload_n hx hb dX6_seen_4 rfl (lv_at hl 1 rfl) ?_
  refine lv_iload_n hx hb dX6_seen_5 rfl (lv_at hl 2 rfl) ?_
  refine x_doneA X h (x_runS X h (m_X6_knownEntry I 0 hL hG (by omega) n mcs hB d e (by omega) (by omega) hk _) F_X6_knownEntry q426 q427 rfl (by decide) (by decide) ⟨Nat.le_refl _, Nat.le_refl _⟩ hl.1 (Nat.le_of_ble_eq_true rfl) dX6_seen_6 rfl) (fun H locs h => ?_)
  refine lv_astore (lv' := [(5, .ref (ad (4, 0, e, 0))), (0, .ref (ad (0, 0, 0, 0))), (1, .int (nI d)), (2, .int (nI e)), (3, .int (nI f)), (4, .int (nI j))]) hx hb dX6_seen_9 hl (by decide) rfl (fun ls hl => ?_)
  refine lv_iload_n hx hb dX6_seen_11 rfl (lv_at hl 4 rfl) ?_
  refine x_doneV X h (x_runS X h (m_X6_requireField I f (by omega) _) F_X6_requireField q434 q435 rfl (by decide) (by decide) ⟨Nat.le_refl _, Nat.le_refl _⟩ hl.1 (Nat.le_of_ble_eq_true rfl) dX6_seen_12 rfl) (fun H locs h => ?_)
  refine lv_iload hx hb dX6_seen_15 (lv_at hl 5 rfl) ?_
  refine x_doneV X h (x_runS X h (m_X6_requireDevice I j (by omega) _) F_X6_requireDevice q202 q203 rfl (by decide) (by decide) ⟨Nat.le_refl _, Nat.le_refl _⟩ hl.1 (Nat.le_of_ble_eq_true rfl) dX6_seen_17 rfl) (fun H locs h => ?_)
  refine lv_aload hx hb dX6_seen_20 (lv_at hl 0 rfl) ?_
  refine gf_Entry_copies X h (hL (4, 0, e, 0) ⟨by omega, by omega, rfl⟩) q135 dX6_seen_22 ?_
  refine lv_iload_n hx hb dX6_seen_25 rfl (lv_at hl 2 rfl) ?_
  refine ra_copies X h (hL (6, 0, e, 0) ⟨by omega, by omega, rfl⟩) (j := d) (by omega) dX6_seen_26 ?_
  refine gf_Copy_seen X h (hL (9, 0, e, d) ⟨by omega, by omega, by omega⟩) q111 dX6_seen_27 ?_
  refine gf_Numbers_numbers X h (fun _ => rfl) (hL (12, 0, e, d) ⟨by omega, by omega, by omega⟩) q93 dX6_seen_30 ?_
  refine lv_iload_n hx hb dX6_seen_33 rfl (lv_at hl 4 rfl) ?_
  refine lv_iload hx hb dX6_seen_34 (lv_at hl 5 rfl) ?_
  refine x_doneI X h (x_runS X h (m_X6_cell I f j _) F_X6_cell q724 q328 rfl (by decide) (by decide) ⟨Nat.le_refl _, Nat.le_refl _⟩ hl.1 (Nat.le_of_ble_eq_true rfl) dX6_seen_36 rfl) (fun H locs h => ?_)
  refine y_ald X h (fun _ => rfl) (by decide) (hL (13, 0, e, d) ⟨by omega, by omega, by omega⟩) (by omega) (v := I (13, 0, e, d) (f * 6 + j)) rfl dX6_seen_39 ?_
  exact x_iret X h hr rfl rfl (fun _ _ => rfl) dX6_seen_40

set_option maxHeartbeats 4000000 in
set_option maxRecDepth 100000 in
theorem x_X6_marks_1 {l : Launch} {D : va_G} {tc : TC} {dz : Nat} {ad : KN → Nat} {Ks : List KN} {gm : GM} (I : Mem) (hst : l.stackTraces = false) (hL : LV gm Ks) (hG : GMok gm) (n : Nat) (mcs : Nat → Nat) (hB : BK gm I 0 n mcs) (x y : Int32) (h0 : ckn I 0 n x y = false) : MX l yX6_marks cX6_marks 6 (Option.some ClassFile.FieldType.int) 9 D tc dz ad Ks (lay tc ad gm dz I) [.ref (ad (0, 0, 0, 0)), .int x, .int y] exI := by
  intro sz
  obtain ⟨hn, hn10, hmk⟩ := id hB
  refine x_ofX (by decide +kernel) (Nat.le_of_ble_eq_true rfl) (fun pp ee s mm bel meth cd ls X htab hz h hl => ?_)
  subst hz
  obtain ⟨hx, hb, hmaxL, hown, hts⟩ := id X.1
  have hl : lv_has ls 6 [(0, .ref (ad (0, 0, 0, 0))), (1, .int x), (2, .int y)] := hl
  refine lv_aload_n hx hb dX6_marks_0 rfl (lv_at hl 0 rfl) ?_
  refine gf_BraidBook_books X h (hL (0, 0, 0, 0) ⟨rfl, rfl, rfl⟩) q188 dX6_marks_1 ?_
  refine lv_iload_n hx hb dX6_marks_4 rfl (lv_at hl 1 rfl) ?_
  refine lv_iload_n hx hb dX6_marks_5 rfl (lv_at hl 2 rfl) ?_
  refine x_xdone X h (x_xrunS X h (x_X6_knownEntry I hst 0 hL hG (by decide) n mcs hB x y h0 _) F_X6_knownEntry q426 q427 rfl (by decide) (by decide) ⟨by decide, by decide⟩ hl.1 (Nat.le_of_ble_eq_true rfl) dX6_marks_6 rfl) (fun ce q9 H locs h hce hcv hcl => ?_)
  exact x_xout X h htab hce hcv hcl (by decide) (by decide)

def mrkR (I : Mem) (e d mc : Nat) : Int32 := if cmk I 0 e d mc = 0 then nI 0 else nI (100 * cmk I 0 e d mc) + (if I (1, 0, 0, 0) 0 - nwm I 0 e d mc < nI 99 then I (1, 0, 0, 0) 0 - nwm I 0 e d mc else nI 99)
theorem cmk_le (I : Mem) (b e d mc : Nat) : cmk I b e d mc ≤ mc := cntN_le _ _
theorem bsmN_le {I : Mem} {b d o : Nat} {mcs : Nat → Nat} : ∀ n, bsmN I b d o mcs n ≤ 4 * n
  | 0 => Nat.le_refl 0
  | n + 1 => by
    have h1 := bsmN_le (I := I) (b := b) (d := d) (o := o) (mcs := mcs) n
    have h2 := cnS_le I b n d o (mcs n)
    rw [bsmN]
    omega

set_option maxHeartbeats 4000000 in
set_option maxRecDepth 100000 in
theorem m_X6_marks {l : Launch} {D : va_G} {tc : TC} {dz : Nat} {ad : KN → Nat} {Ks : List KN} {gm : GM} (I : Mem) (hL : LV gm Ks) (hG : GMok gm) (n : Nat) (mcs : Nat → Nat) (hB : BK gm I 0 n mcs) (d e : Nat) (hd : d < 6) (hen : e < n) (hk : nz (I (9, 0, e, d) 0) = true) : MI l yX6_marks cX6_marks 6 (Option.some ClassFile.FieldType.int) 9 D tc dz ad Ks (lay tc ad gm dz I) [.ref (ad (0, 0, 0, 0)), .int (nI d), .int (nI e)] (mrkR I e d (mcs e)) (lay tc ad gm dz I) := by
  intro sz
  obtain ⟨hn, hn10, hmk⟩ := id hB
  refine x_ofW (by decide +kernel) (Nat.le_of_ble_eq_true rfl) (fun pp ee s mm bel meth cd ls X hr hin hz h hl => ?_)
  subst hz
  obtain ⟨hx, hb, hmaxL, hown, hts⟩ := id X.1
  have hl : lv_has ls 6 [(0, .ref (ad (0, 0, 0, 0))), (1, .int (nI d)), (2, .int (nI e))] := hl
  refine lv_aload_n hx hb dX6_marks_0 rfl (lv_at hl 0 rfl) ?_
  refine gf_BraidBook_books X h (hL (0, 0, 0, 0) ⟨rfl, rfl, rfl⟩) q188 dX6_marks_1 ?_
  refine lv_iload_n hx hb dX6_marks_4 rfl (lv_at hl 1 rfl) ?_
  refine lv_iload_n hx hb dX6_marks_5 rfl (lv_at hl 2 rfl) ?_
  refine x_doneA X h (x_runS X h (m_X6_knownEntry I 0 hL hG (by omega) n mcs hB d e (by omega) (by omega) hk _) F_X6_knownEntry q426 q427 rfl (by decide) (by decide) ⟨Nat.le_refl _, Nat.le_refl _⟩ hl.1 (Nat.le_of_ble_eq_true rfl) dX6_marks_6 rfl) (fun H locs h => ?_)
  refine lv_astore_n (lv' := [(3, .ref (ad (4, 0, e, 0))), (0, .ref (ad (0, 0, 0, 0))), (1, .int (nI d)), (2, .int (nI e))]) hx hb dX6_marks_9 rfl hl (by decide) rfl (fun ls hl => ?_)
  refine lv_aload_n hx hb dX6_marks_10 rfl (lv_at hl 0 rfl) ?_
  refine lv_iload_n hx hb dX6_marks_11 rfl (lv_at hl 2 rfl) ?_
  refine x_doneI X h (x_runV X h (k := (4, 0, e, 0)) (m_X2_countMarks I 0 e hL hG (by omega) (by omega) d (by omega) (mcs e) (hmk e (by omega)).1 (hmk e (by omega)).2 _) F_X2_countMarks q729 q730 q731 (hL (4, 0, e, 0) ⟨by omega, by omega, rfl⟩) rfl rfl rfl (by decide) (by decide) ⟨Nat.le_refl _, Nat.le_refl _⟩ hl.1 (Nat.le_of_ble_eq_true rfl) dX6_marks_12 rfl) (fun H locs h => ?_)
  refine lv_istore (lv' := [(4, .int (nI (cmk I 0 e d (mcs e)))), (3, .ref (ad (4, 0, e, 0))), (0, .ref (ad (0, 0, 0, 0))), (1, .int (nI d)), (2, .int (nI e))]) hx hb dX6_marks_15 hl (by decide) rfl (fun ls hl => ?_)
  refine lv_iload hx hb dX6_marks_17 (lv_at hl 0 rfl) ?_
  have hck : cmk I 0 e d (mcs e) < 2 ^ 31 := by have := cmk_le I 0 e d (mcs e); have := (hmk e (by omega)).2; have := hG 0 e; omega
  refine n_if_ne (tgt := 24) hx hb (by omega) dX6_marks_19 (by decide) (fun c_19 => ?_) (fun c_19 => ?_)
  · skip
    refine lv_aload_n hx hb dX6_marks_24 rfl (lv_at hl 2 rfl) ?_
    refine gf_BraidBook_books X h (hL (0, 0, 0, 0) ⟨rfl, rfl, rfl⟩) q188 dX6_marks_25 ?_
    refine gf_Books_month X h (hL (1, 0, 0, 0) ⟨by omega, rfl, rfl⟩) q149 (v := I (1, 0, 0, 0) 0) rfl dX6_marks_28 ?_
    refine lv_aload_n hx hb dX6_marks_31 rfl (lv_at hl 1 rfl) ?_
    refine lv_iload_n hx hb dX6_marks_32 rfl (lv_at hl 3 rfl) ?_
    refine x_doneI X h (x_runV X h (k := (4, 0, e, 0)) (m_X2_newestMark I 0 e hL hG (by omega) (by omega) d (by omega) (mcs e) (hmk e (by omega)).1 (hmk e (by omega)).2 _) F_X2_newestMark q733 q663 q664 (hL (4, 0, e, 0) ⟨by omega, by omega, rfl⟩) rfl rfl rfl (by decide) (by decide) ⟨Nat.le_refl _, Nat.le_refl _⟩ hl.1 (Nat.le_of_ble_eq_true rfl) dX6_marks_33 rfl) (fun H locs h => ?_)
    refine lv_isub hx hb dX6_marks_36 ?_
    refine lv_istore (lv' := [(5, .int ((I (1, 0, 0, 0) 0) - (nwm I 0 e d (mcs e)))), (4, .int (nI (cmk I 0 e d (mcs e)))), (3, .ref (ad (4, 0, e, 0))), (0, .ref (ad (0, 0, 0, 0))), (1, .int (nI d)), (2, .int (nI e))]) hx hb dX6_marks_37 hl (by decide) rfl (fun ls hl => ?_)
    refine lv_bipush (v := nI 100) hx hb dX6_marks_39 (by decide) ?_
    refine lv_iload hx hb dX6_marks_41 (lv_at hl 1 rfl) ?_
    refine n_imul hx hb dX6_marks_43 ?_
    refine lv_bipush (v := nI 99) hx hb dX6_marks_44 (by decide) ?_
    refine lv_iload hx hb dX6_marks_46 (lv_at hl 0 rfl) ?_
    refine x_min X hl.1 q734 (by decide) (Nat.le_of_ble_eq_true rfl) (Nat.le_refl _) (Nat.le_refl _) dX6_marks_48 ?_
    refine lv_iadd hx hb dX6_marks_51 ?_
    refine x_iret X h hr rfl ?_ (fun _ _ => rfl) dX6_marks_52
    · have hz0 : ¬ cmk I 0 e d (mcs e) = 0 := by omega
      rw [mrkR, if_neg hz0]
  · skip
    refine lv_iconst (v := nI 0) hx hb dX6_marks_22 (by decide) ?_
    refine x_iret X h hr rfl ?_ (fun _ _ => rfl) dX6_marks_23
    · rw [mrkR, if_pos c_19]

set_option maxHeartbeats 4000000 in
set_option maxRecDepth 100000 in
theorem x_X6_clashes_1 {l : Launch} {D : va_G} {tc : TC} {dz : Nat} {ad : KN → Nat} {Ks : List KN} {gm : GM} (I : Mem) (hst : l.stackTraces = false) (hL : LV gm Ks) (hG : GMok gm) (n : Nat) (mcs : Nat → Nat) (hB : BK gm I 0 n mcs) (x : Int32) (h0 : isDev x = false) : MX l yX6_clashes cX6_clashes 2 (Option.some ClassFile.FieldType.int) 9 D tc dz ad Ks (lay tc ad gm dz I) [.ref (ad (0, 0, 0, 0)), .int x] exI := by
  intro sz
  obtain ⟨hn, hn10, hmk⟩ := id hB
  refine x_ofX (by decide +kernel) (Nat.le_of_ble_eq_true rfl) (fun pp ee s mm bel meth cd ls X htab hz h hl => ?_)
  subst hz
  obtain ⟨hx, hb, hmaxL, hown, hts⟩ := id X.1
  have hl : lv_has ls 2 [(0, .ref (ad (0, 0, 0, 0))), (1, .int x)] := hl
  refine lv_iload_n hx hb dX6_clashes_0 rfl (lv_at hl 1 rfl) ?_
  refine x_xdone X h (x_xrunS X h (x_X6_requireDevice I hst x h0 _) F_X6_requireDevice q202 q203 rfl (by decide) (by decide) ⟨by decide, by decide⟩ hl.1 (Nat.le_of_ble_eq_true rfl) dX6_clashes_1 rfl) (fun ce q9 H locs h hce hcv hcl => ?_)
  exact x_xout X h htab hce hcv hcl (by decide) (by decide)

set_option maxHeartbeats 4000000 in
set_option maxRecDepth 100000 in
theorem m_X6_clashes {l : Launch} {D : va_G} {tc : TC} {dz : Nat} {ad : KN → Nat} {Ks : List KN} {gm : GM} (I : Mem) (hL : LV gm Ks) (hG : GMok gm) (n : Nat) (mcs : Nat → Nat) (hB : BK gm I 0 n mcs) (d : Nat) (hd : d < 6) : MI l yX6_clashes cX6_clashes 2 (Option.some ClassFile.FieldType.int) 9 D tc dz ad Ks (lay tc ad gm dz I) [.ref (ad (0, 0, 0, 0)), .int (nI d)] (nI (bclN I 0 d mcs n)) (lay tc ad gm dz I) := by
  intro sz
  obtain ⟨hn, hn10, hmk⟩ := id hB
  refine x_ofW (by decide +kernel) (Nat.le_of_ble_eq_true rfl) (fun pp ee s mm bel meth cd ls X hr hin hz h hl => ?_)
  subst hz
  obtain ⟨hx, hb, hmaxL, hown, hts⟩ := id X.1
  have hl : lv_has ls 2 [(0, .ref (ad (0, 0, 0, 0))), (1, .int (nI d))] := hl
  refine lv_iload_n hx hb dX6_clashes_0 rfl (lv_at hl 1 rfl) ?_
  refine x_doneV X h (x_runS X h (m_X6_requireDevice I d (by omega) _) F_X6_requireDevice q202 q203 rfl (by decide) (by decide) ⟨Nat.le_refl _, Nat.le_refl _⟩ hl.1 (Nat.le_of_ble_eq_true rfl) dX6_clashes_1 rfl) (fun H locs h => ?_)
  refine lv_aload_n hx hb dX6_clashes_4 rfl (lv_at hl 0 rfl) ?_
  refine gf_BraidBook_books X h (hL (0, 0, 0, 0) ⟨rfl, rfl, rfl⟩) q188 dX6_clashes_5 ?_
  refine lv_iload_n hx hb dX6_clashes_8 rfl (lv_at hl 1 rfl) ?_
  refine x_doneI X h (x_runV X h (k := (1, 0, 0, 0)) (m_X0_countClashes I 0 hL hG (by omega) n mcs hB d (by omega) _) F_X0_countClashes q276 q277 q278 (hL (1, 0, 0, 0) ⟨by omega, rfl, rfl⟩) rfl rfl rfl (by decide) (by decide) ⟨Nat.le_refl _, Nat.le_refl _⟩ hl.1 (Nat.le_of_ble_eq_true rfl) dX6_clashes_9 rfl) (fun H locs h => ?_)
  exact x_iret X h hr rfl rfl (fun _ _ => rfl) dX6_clashes_12

set_option maxHeartbeats 4000000 in
set_option maxRecDepth 100000 in
theorem x_X6_agreement_1a {l : Launch} {D : va_G} {tc : TC} {dz : Nat} {ad : KN → Nat} {Ks : List KN} {gm : GM} (I : Mem) (hst : l.stackTraces = false) (hL : LV gm Ks) (hG : GMok gm) (n : Nat) (mcs : Nat → Nat) (hB : BK gm I 0 n mcs) (x y : Int32) (h0 : isDev x = false) : MX l yX6_agreement cX6_agreement 4 (Option.some ClassFile.FieldType.float) 9 D tc dz ad Ks (lay tc ad gm dz I) [.ref (ad (0, 0, 0, 0)), .int x, .int y] exI := by
  intro sz
  obtain ⟨hn, hn10, hmk⟩ := id hB
  refine x_ofX (by decide +kernel) (Nat.le_of_ble_eq_true rfl) (fun pp ee s mm bel meth cd ls X htab hz h hl => ?_)
  subst hz
  obtain ⟨hx, hb, hmaxL, hown, hts⟩ := id X.1
  have hl : lv_has ls 4 [(0, .ref (ad (0, 0, 0, 0))), (1, .int x), (2, .int y)] := hl
  refine lv_iload_n hx hb dX6_agreement_0 rfl (lv_at hl 1 rfl) ?_
  refine x_xdone X h (x_xrunS X h (x_X6_requireDevice I hst x h0 _) F_X6_requireDevice q202 q203 rfl (by decide) (by decide) ⟨by decide, by decide⟩ hl.1 (Nat.le_of_ble_eq_true rfl) dX6_agreement_1 rfl) (fun ce q9 H locs h hce hcv hcl => ?_)
  exact x_xout X h htab hce hcv hcl (by decide) (by decide)

set_option maxHeartbeats 4000000 in
set_option maxRecDepth 100000 in
theorem x_X6_agreement_1b {l : Launch} {D : va_G} {tc : TC} {dz : Nat} {ad : KN → Nat} {Ks : List KN} {gm : GM} (I : Mem) (hst : l.stackTraces = false) (hL : LV gm Ks) (hG : GMok gm) (n : Nat) (mcs : Nat → Nat) (hB : BK gm I 0 n mcs) (d : Nat) (hd : d < 6) (y : Int32) (h0 : isDev y = false) : MX l yX6_agreement cX6_agreement 4 (Option.some ClassFile.FieldType.float) 9 D tc dz ad Ks (lay tc ad gm dz I) [.ref (ad (0, 0, 0, 0)), .int (nI d), .int y] exI := by
  intro sz
  obtain ⟨hn, hn10, hmk⟩ := id hB
  refine x_ofX (by decide +kernel) (Nat.le_of_ble_eq_true rfl) (fun pp ee s mm bel meth cd ls X htab hz h hl => ?_)
  subst hz
  obtain ⟨hx, hb, hmaxL, hown, hts⟩ := id X.1
  have hl : lv_has ls 4 [(0, .ref (ad (0, 0, 0, 0))), (1, .int (nI d)), (2, .int y)] := hl
  refine lv_iload_n hx hb dX6_agreement_0 rfl (lv_at hl 1 rfl) ?_
  refine x_doneV X h (x_runS X h (m_X6_requireDevice I d (by omega) _) F_X6_requireDevice q202 q203 rfl (by decide) (by decide) ⟨by decide, by decide⟩ hl.1 (Nat.le_of_ble_eq_true rfl) dX6_agreement_1 rfl) (fun H locs h => ?_)
  refine lv_iload_n hx hb dX6_agreement_4 rfl (lv_at hl 2 rfl) ?_
  refine x_xdone X h (x_xrunS X h (x_X6_requireDevice I hst y h0 _) F_X6_requireDevice q202 q203 rfl (by decide) (by decide) ⟨by decide, by decide⟩ hl.1 (Nat.le_of_ble_eq_true rfl) dX6_agreement_5 rfl) (fun ce q9 H locs h hce hcv hcl => ?_)
  exact x_xout X h htab hce hcv hcl (by decide) (by decide)

theorem x_X6_agreement_1 {l : Launch} {D : va_G} {tc : TC} {dz : Nat} {ad : KN → Nat} {Ks : List KN} {gm : GM} (I : Mem) (hst : l.stackTraces = false) (hL : LV gm Ks) (hG : GMok gm) (n : Nat) (mcs : Nat → Nat) (hB : BK gm I 0 n mcs) (x y : Int32) (h0 : (isDev x && isDev y) = false) : MX l yX6_agreement cX6_agreement 4 (some .float) 9 D tc dz ad Ks (lay tc ad gm dz I) [.ref (ad (0, 0, 0, 0)), .int x, .int y] exI := by
  cases hc : isDev x with
  | false => exact x_X6_agreement_1a I hst hL hG n mcs hB x y hc
  | true =>
    obtain ⟨d, hd, rfl⟩ := isDev_of hc
    rw [hc, Bool.true_and] at h0
    exact x_X6_agreement_1b I hst hL hG n mcs hB d hd y h0

set_option maxHeartbeats 4000000 in
set_option maxRecDepth 100000 in
theorem m_X6_agreement {l : Launch} {D : va_G} {tc : TC} {dz : Nat} {ad : KN → Nat} {Ks : List KN} {gm : GM} (I : Mem) (hL : LV gm Ks) (hG : GMok gm) (n : Nat) (mcs : Nat → Nat) (hB : BK gm I 0 n mcs) (d d2 : Nat) (hd : d < 6) (hd2 : d2 < 6) (t : Nat) (ht : bcmI I 0 d d2 mcs n = nI t) (ht4 : t ≤ 40) : MF l yX6_agreement cX6_agreement 4 (Option.some ClassFile.FieldType.float) 9 D tc dz ad Ks (lay tc ad gm dz I) [.ref (ad (0, 0, 0, 0)), .int (nI d), .int (nI d2)] (agF (bsmN I 0 d d2 mcs n) t) (lay tc ad gm dz I) := by
  intro sz
  obtain ⟨hn, hn10, hmk⟩ := id hB
  refine x_ofW (by decide +kernel) (Nat.le_of_ble_eq_true rfl) (fun pp ee s mm bel meth cd ls X hr hin hz h hl => ?_)
  subst hz
  obtain ⟨hx, hb, hmaxL, hown, hts⟩ := id X.1
  have hl : lv_has ls 4 [(0, .ref (ad (0, 0, 0, 0))), (1, .int (nI d)), (2, .int (nI d2))] := hl
  refine lv_iload_n hx hb dX6_agreement_0 rfl (lv_at hl 1 rfl) ?_
  refine x_doneV X h (x_runS X h (m_X6_requireDevice I d (by omega) _) F_X6_requireDevice q202 q203 rfl (by decide) (by decide) ⟨Nat.le_refl _, Nat.le_refl _⟩ hl.1 (Nat.le_of_ble_eq_true rfl) dX6_agreement_1 rfl) (fun H locs h => ?_)
  refine lv_iload_n hx hb dX6_agreement_4 rfl (lv_at hl 2 rfl) ?_
  refine x_doneV X h (x_runS X h (m_X6_requireDevice I d2 (by omega) _) F_X6_requireDevice q202 q203 rfl (by decide) (by decide) ⟨Nat.le_refl _, Nat.le_refl _⟩ hl.1 (Nat.le_of_ble_eq_true rfl) dX6_agreement_5 rfl) (fun H locs h => ?_)
  refine lv_aload_n hx hb dX6_agreement_8 rfl (lv_at hl 0 rfl) ?_
  refine gf_BraidBook_books X h (hL (0, 0, 0, 0) ⟨rfl, rfl, rfl⟩) q188 dX6_agreement_9 ?_
  refine lv_iload_n hx hb dX6_agreement_12 rfl (lv_at hl 1 rfl) ?_
  refine lv_iload_n hx hb dX6_agreement_13 rfl (lv_at hl 2 rfl) ?_
  refine x_doneI X h (x_runV X h (k := (1, 0, 0, 0)) (m_X0_countCompared I 0 hL hG (by omega) n mcs hB d d2 (by omega) (by omega) _) F_X0_countCompared q334 q335 q336 (hL (1, 0, 0, 0) ⟨by omega, rfl, rfl⟩) rfl rfl rfl (by decide) (by decide) ⟨Nat.le_refl _, Nat.le_refl _⟩ hl.1 (Nat.le_of_ble_eq_true rfl) dX6_agreement_14 rfl) (fun H locs h => ?_)
  rw [ht]
  refine lv_istore_n (lv' := [(3, .int (nI t)), (0, .ref (ad (0, 0, 0, 0))), (1, .int (nI d)), (2, .int (nI d2))]) hx hb dX6_agreement_17 rfl hl (by decide) rfl (fun ls hl => ?_)
  refine lv_iload_n hx hb dX6_agreement_18 rfl (lv_at hl 0 rfl) ?_
  refine n_if_ne (tgt := 24) hx hb (by omega) dX6_agreement_19 (by decide) (fun c_19 => ?_) (fun c_19 => ?_)
  · skip
    have hcb := bsmN_le (I := I) (b := 0) (d := d) (o := d2) (mcs := mcs) n
    refine lv_aload_n hx hb dX6_agreement_24 rfl (lv_at hl 1 rfl) ?_
    refine gf_BraidBook_books X h (hL (0, 0, 0, 0) ⟨rfl, rfl, rfl⟩) q188 dX6_agreement_25 ?_
    refine lv_iload_n hx hb dX6_agreement_28 rfl (lv_at hl 2 rfl) ?_
    refine lv_iload_n hx hb dX6_agreement_29 rfl (lv_at hl 3 rfl) ?_
    refine x_doneI X h (x_runV X h (k := (1, 0, 0, 0)) (m_X0_countSame I 0 hL hG (by omega) n mcs hB d d2 (by omega) (by omega) _) F_X0_countSame q356 q357 q358 (hL (1, 0, 0, 0) ⟨by omega, rfl, rfl⟩) rfl rfl rfl (by decide) (by decide) ⟨Nat.le_refl _, Nat.le_refl _⟩ hl.1 (Nat.le_of_ble_eq_true rfl) dX6_agreement_30 rfl) (fun H locs h => ?_)
    refine lv_i2f hx hb dX6_agreement_33 ?_
    refine lv_iload_n hx hb dX6_agreement_34 rfl (lv_at hl 0 rfl) ?_
    refine lv_i2f hx hb dX6_agreement_35 ?_
    refine lv_fdiv hx hb dX6_agreement_36 (fdiv_n (by omega) (by omega) (by omega)) ?_
    refine x_fret X h hr ?_ (fun _ _ => rfl) dX6_agreement_37
    · rw [agF, if_neg (by omega)]
  · skip
    refine lv_fconst1 hx hb dX6_agreement_22 ?_
    refine x_fret X h hr ?_ (fun _ _ => rfl) dX6_agreement_23
    · rw [agF, if_pos (by omega)]
