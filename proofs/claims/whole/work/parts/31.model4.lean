theorem m_X7_isKnown {l : Launch} {D : va_G} {tc : TC} {dz : Nat} {ad : KN → Nat} {Ks : List KN} {gm : GM} (I : Mem) (hL : LV gm Ks) (n : Nat) (hn : I (30, 0, 0, 0) 1 = nI n) (hn10 : n ≤ 10) (x y : Int32) : MI l yX7_isKnown cX7_isKnown 3 (some .boolean) 2 D tc dz ad Ks (lay tc ad gm dz I) [.ref (ad (30, 0, 0, 0)), .int x, .int y] (bI (knwB I n x y)) (lay tc ad gm dz I) := by
  cases hx : isDev x with
  | false =>
    rw [show knwB I n x y = false by unfold knwB; rw [hx]; rfl]
    exact m_X7_isKnown_out I hL n hn hn10 x y (Or.inl hx)
  | true =>
    cases hy : isEnt n y with
    | false =>
      rw [show knwB I n x y = false by unfold knwB; rw [hx, hy]; rfl]
      exact m_X7_isKnown_out I hL n hn hn10 x y (Or.inr hy)
    | true =>
      obtain ⟨d, hd, rfl⟩ := isDev_of hx
      obtain ⟨e, he, rfl⟩ := isEnt_of hn10 hy
      rw [knwB_nI hn10 hd he]
      exact m_X7_isKnown_in I hL n hn hn10 d e hd he

set_option maxHeartbeats 4000000 in
set_option maxRecDepth 100000 in
theorem m_X7_entry_1 {l : Launch} {D : va_G} {tc : TC} {dz : Nat} {ad : KN → Nat} {Ks : List KN} {gm : GM} (I : Mem) (hL : LV gm Ks) (n : Nat) (hn : I (30, 0, 0, 0) 1 = nI n) (hn10 : n ≤ 10) (x : Int32) (h0 : isDev x = false) : MI l yX7_entry cX7_entry 3 (Option.some ClassFile.FieldType.int) 2 D tc dz ad Ks (lay tc ad gm dz I) [.ref (ad (30, 0, 0, 0)), .int x] (nI 0) (lay tc ad gm dz (thM I 1)) := by
  intro sz
  refine x_ofW (by decide +kernel) (Nat.le_of_ble_eq_true rfl) (fun pp ee s mm bel meth cd ls X hr hin hz h hl => ?_)
  subst hz
  obtain ⟨hx, hb, hmaxL, hown, hts⟩ := id X.1
  have hl : lv_has ls 3 [(0, .ref (ad (30, 0, 0, 0))), (1, .int x)] := hl
  refine lv_iload_n hx hb dX7_entry_0 rfl (lv_at hl 1 rfl) ?_
  refine x_doneI X h (x_runS X h (m_X7_isDevice I x _) F_X7_isDevice q857 q858 rfl (by decide) (by decide) ⟨Nat.le_refl _, Nat.le_refl _⟩ hl.1 (Nat.le_of_ble_eq_true rfl) dX7_entry_1 rfl) (fun H locs h => ?_)
  refine lv_istore_n (lv' := [(2, .int (bI (isDev x))), (0, .ref (ad (30, 0, 0, 0))), (1, .int x)]) hx hb dX7_entry_4 rfl hl (by decide) rfl (fun ls hl => ?_)
  refine lv_aload_n hx hb dX7_entry_5 rfl (lv_at hl 1 rfl) ?_
  refine lv_iload_n hx hb dX7_entry_6 rfl (lv_at hl 0 rfl) ?_
  refine b_if_ne (tgt := 14) hx hb dX7_entry_7 (by decide) (fun c => by rw [h0] at c; cases c) (fun _ => ?_)
  refine lv_iconst (v := nI 1) hx hb dX7_entry_10 (by decide) ?_
  refine lv_goto (tgt := 28) hx hb dX7_entry_11 (by decide) ?_
  refine x_doneI X h (x_runV X h (k := (30, 0, 0, 0)) (m_X7_fails1 I hL _) F_X7_fails q863 q865 q5 (hL (30, 0, 0, 0) ⟨by decide, rfl, rfl, rfl⟩) rfl rfl rfl (by decide) (by decide) ⟨Nat.le_refl _, Nat.le_refl _⟩ hl.1 (Nat.le_of_ble_eq_true rfl) dX7_entry_28 rfl) (fun H locs h => ?_)
  refine b_if_eq (tgt := 36) hx hb dX7_entry_31 (by decide) (fun c => (Bool.noConfusion c)) (fun _ => ?_)
  refine lv_iconst (v := nI 0) hx hb dX7_entry_34 (by decide) ?_
  exact x_iret X h hr rfl rfl (fun _ _ => rfl) dX7_entry_35

set_option maxHeartbeats 4000000 in
set_option maxRecDepth 100000 in
theorem m_X7_entry_2 {l : Launch} {D : va_G} {tc : TC} {dz : Nat} {ad : KN → Nat} {Ks : List KN} {gm : GM} (I : Mem) (hL : LV gm Ks) (n : Nat) (hn : I (30, 0, 0, 0) 1 = nI n) (hn10 : n ≤ 10) (d : Nat) (hd : d < 6) (h10 : n = 10) : MI l yX7_entry cX7_entry 3 (Option.some ClassFile.FieldType.int) 2 D tc dz ad Ks (lay tc ad gm dz I) [.ref (ad (30, 0, 0, 0)), .int (nI d)] (nI 0) (lay tc ad gm dz (thM I 2)) := by
  intro sz
  refine x_ofW (by decide +kernel) (Nat.le_of_ble_eq_true rfl) (fun pp ee s mm bel meth cd ls X hr hin hz h hl => ?_)
  subst hz
  obtain ⟨hx, hb, hmaxL, hown, hts⟩ := id X.1
  have hl : lv_has ls 3 [(0, .ref (ad (30, 0, 0, 0))), (1, .int (nI d))] := hl
  refine lv_iload_n hx hb dX7_entry_0 rfl (lv_at hl 1 rfl) ?_
  refine x_doneI X h (x_runS X h (m_X7_isDevice_in I d (by omega) _) F_X7_isDevice q857 q858 rfl (by decide) (by decide) ⟨Nat.le_refl _, Nat.le_refl _⟩ hl.1 (Nat.le_of_ble_eq_true rfl) dX7_entry_1 rfl) (fun H locs h => ?_)
  refine lv_istore_n (lv' := [(2, .int (bI true)), (0, .ref (ad (30, 0, 0, 0))), (1, .int (nI d))]) hx hb dX7_entry_4 rfl hl (by decide) rfl (fun ls hl => ?_)
  refine lv_aload_n hx hb dX7_entry_5 rfl (lv_at hl 1 rfl) ?_
  refine lv_iload_n hx hb dX7_entry_6 rfl (lv_at hl 0 rfl) ?_
  refine b_if_ne (tgt := 14) hx hb dX7_entry_7 (by decide) (fun _ => ?_) (fun c => (Bool.noConfusion c))
  refine lv_aload_n hx hb dX7_entry_14 rfl (lv_at hl 1 rfl) ?_
  refine gf_Model_entries X h (hL (30, 0, 0, 0) ⟨by decide, rfl, rfl, rfl⟩) q798 (v := nI n) hn dX7_entry_15 ?_
  refine lv_bipush (v := nI 10) hx hb dX7_entry_18 (by decide) ?_
  refine n_icmp_ne (tgt := 27) hx hb (by omega) (by omega) dX7_entry_20 (by decide) (fun c_20 => ?_) (fun c_20 => ?_)
  · skip
    exact absurd h10 c_20
  · skip
    refine lv_iconst (v := nI 2) hx hb dX7_entry_23 (by decide) ?_
    refine lv_goto (tgt := 28) hx hb dX7_entry_24 (by decide) ?_
    refine x_doneI X h (x_runV X h (k := (30, 0, 0, 0)) (m_X7_fails2 I hL _) F_X7_fails q863 q865 q5 (hL (30, 0, 0, 0) ⟨by decide, rfl, rfl, rfl⟩) rfl rfl rfl (by decide) (by decide) ⟨Nat.le_refl _, Nat.le_refl _⟩ hl.1 (Nat.le_of_ble_eq_true rfl) dX7_entry_28 rfl) (fun H locs h => ?_)
    refine b_if_eq (tgt := 36) hx hb dX7_entry_31 (by decide) (fun c => (Bool.noConfusion c)) (fun _ => ?_)
    refine lv_iconst (v := nI 0) hx hb dX7_entry_34 (by decide) ?_
    exact x_iret X h hr rfl rfl (fun _ _ => rfl) dX7_entry_35

set_option maxHeartbeats 4000000 in
set_option maxRecDepth 100000 in
theorem m_X7_entry_0 {l : Launch} {D : va_G} {tc : TC} {dz : Nat} {ad : KN → Nat} {Ks : List KN} {gm : GM} (I : Mem) (hL : LV gm Ks) (n : Nat) (hn : I (30, 0, 0, 0) 1 = nI n) (hn10 : n ≤ 10) (d : Nat) (hd : d < 6) (h10 : n < 10) : MI l yX7_entry cX7_entry 3 (Option.some ClassFile.FieldType.int) 2 D tc dz ad Ks (lay tc ad gm dz I) [.ref (ad (30, 0, 0, 0)), .int (nI d)] (nI n) (lay tc ad gm dz (mEntM I d n)) := by
  intro sz
  refine x_ofW (by decide +kernel) (Nat.le_of_ble_eq_true rfl) (fun pp ee s mm bel meth cd ls X hr hin hz h hl => ?_)
  subst hz
  obtain ⟨hx, hb, hmaxL, hown, hts⟩ := id X.1
  have hl : lv_has ls 3 [(0, .ref (ad (30, 0, 0, 0))), (1, .int (nI d))] := hl
  refine lv_iload_n hx hb dX7_entry_0 rfl (lv_at hl 1 rfl) ?_
  refine x_doneI X h (x_runS X h (m_X7_isDevice_in I d (by omega) _) F_X7_isDevice q857 q858 rfl (by decide) (by decide) ⟨Nat.le_refl _, Nat.le_refl _⟩ hl.1 (Nat.le_of_ble_eq_true rfl) dX7_entry_1 rfl) (fun H locs h => ?_)
  refine lv_istore_n (lv' := [(2, .int (bI true)), (0, .ref (ad (30, 0, 0, 0))), (1, .int (nI d))]) hx hb dX7_entry_4 rfl hl (by decide) rfl (fun ls hl => ?_)
  refine lv_aload_n hx hb dX7_entry_5 rfl (lv_at hl 1 rfl) ?_
  refine lv_iload_n hx hb dX7_entry_6 rfl (lv_at hl 0 rfl) ?_
  refine b_if_ne (tgt := 14) hx hb dX7_entry_7 (by decide) (fun _ => ?_) (fun c => (Bool.noConfusion c))
  refine lv_aload_n hx hb dX7_entry_14 rfl (lv_at hl 1 rfl) ?_
  refine gf_Model_entries X h (hL (30, 0, 0, 0) ⟨by decide, rfl, rfl, rfl⟩) q798 (v := nI n) hn dX7_entry_15 ?_
  refine lv_bipush (v := nI 10) hx hb dX7_entry_18 (by decide) ?_
  refine n_icmp_ne (tgt := 27) hx hb (by omega) (by omega) dX7_entry_20 (by decide) (fun c_20 => ?_) (fun c_20 => ?_)
  · skip
    refine lv_iconst (v := nI 0) hx hb dX7_entry_27 (by decide) ?_
    refine x_doneI X h (x_runV X h (k := (30, 0, 0, 0)) (m_X7_fails0 I hL _) F_X7_fails q863 q865 q5 (hL (30, 0, 0, 0) ⟨by decide, rfl, rfl, rfl⟩) rfl rfl rfl (by decide) (by decide) ⟨Nat.le_refl _, Nat.le_refl _⟩ hl.1 (Nat.le_of_ble_eq_true rfl) dX7_entry_28 rfl) (fun H locs h => ?_)
    refine b_if_eq (tgt := 36) hx hb dX7_entry_31 (by decide) (fun _ => ?_) (fun c => (Bool.noConfusion c))
    refine lv_aload_n hx hb dX7_entry_36 rfl (lv_at hl 1 rfl) ?_
    refine gf_Model_owner X h (hL (30, 0, 0, 0) ⟨by decide, rfl, rfl, rfl⟩) q799 dX7_entry_37 ?_
    refine lv_aload_n hx hb dX7_entry_40 rfl (lv_at hl 1 rfl) ?_
    refine gf_Model_entries X h (hL (30, 0, 0, 0) ⟨by decide, rfl, rfl, rfl⟩) q798 (v := nI n) ((th_30 (by decide)).trans hn) dX7_entry_41 ?_
    refine lv_iload_n hx hb dX7_entry_44 rfl (lv_at hl 2 rfl) ?_
    refine lv_iconst (v := nI 2) hx hb dX7_entry_45 (by decide) ?_
    refine n_idiv hx hb (by omega) (by omega) (by omega) dX7_entry_46 ?_
    refine y_ast X h (fun _ => rfl) (by decide) (hL (32, 0, 0, 0) ⟨by decide, rfl, rfl, rfl⟩) (by omega) dX7_entry_47 (fun H locs h => ?_)
    refine lv_aload_n hx hb dX7_entry_48 rfl (lv_at hl 1 rfl) ?_
    refine gf_Model_knows X h (hL (30, 0, 0, 0) ⟨by decide, rfl, rfl, rfl⟩) q801 dX7_entry_49 ?_
    refine lv_iload_n hx hb dX7_entry_52 rfl (lv_at hl 2 rfl) ?_
    refine lv_aload_n hx hb dX7_entry_53 rfl (lv_at hl 1 rfl) ?_
    refine gf_Model_entries X h (hL (30, 0, 0, 0) ⟨by decide, rfl, rfl, rfl⟩) q798 (v := nI n) (by rw [sset_ne _ _ (nek (by decide) : ((30, 0, 0, 0) : KN) ≠ (32, 0, 0, 0))]; exact (th_30 (by decide)).trans hn) dX7_entry_54 ?_
    refine x_doneI X h (x_runS X h (m_X7_pair (sset (thM I 0) (32, 0, 0, 0) (upd ((thM I 0) (32, 0, 0, 0)) n (nI (d / 2)))) d n _) F_X7_pair q867 q868 rfl (by decide) (by decide) ⟨Nat.le_refl _, Nat.le_refl _⟩ hl.1 (Nat.le_of_ble_eq_true rfl) dX7_entry_57 rfl) (fun H locs h => ?_)
    refine lv_iconst (v := nI 1) hx hb dX7_entry_60 (by decide) ?_
    refine y_zast X h (fun _ => rfl) (by decide) (hL (34, 0, 0, 0) ⟨by decide, rfl, rfl, rfl⟩) (by omega) (by decide) dX7_entry_61 (fun H locs h => ?_)
    refine lv_aload_n hx hb dX7_entry_62 rfl (lv_at hl 1 rfl) ?_
    refine lv_dup hx hb dX7_entry_63 rfl ?_
    refine gf_Model_entries X h (hL (30, 0, 0, 0) ⟨by decide, rfl, rfl, rfl⟩) q798 (v := nI n) (by rw [sset_ne _ _ (nek (by decide) : ((30, 0, 0, 0) : KN) ≠ (34, 0, 0, 0)), sset_ne _ _ (nek (by decide) : ((30, 0, 0, 0) : KN) ≠ (32, 0, 0, 0))]; exact (th_30 (by decide)).trans hn) dX7_entry_64 ?_
    refine lv_iconst (v := nI 1) hx hb dX7_entry_67 (by decide) ?_
    refine n_iadd hx hb dX7_entry_68 ?_
    refine pf_Model_entries X h (hL (30, 0, 0, 0) ⟨by decide, rfl, rfl, rfl⟩) q798 dX7_entry_69 (fun H locs h => ?_)
    refine lv_aload_n hx hb dX7_entry_72 rfl (lv_at hl 1 rfl) ?_
    refine gf_Model_entries X h (hL (30, 0, 0, 0) ⟨by decide, rfl, rfl, rfl⟩) q798 (v := nI (n + 1)) (by rw [sset_eq]; simp only [upd, ↓reduceIte]) dX7_entry_73 ?_
    refine lv_iconst (v := nI 1) hx hb dX7_entry_76 (by decide) ?_
    refine n_isub hx hb (by omega) dX7_entry_77 ?_
    refine x_iret X h hr rfl ?_ (fun k _ => congrFun (congrArg (lay tc ad gm dz) ?_) k) dX7_entry_78
    · rw [Nat.add_sub_cancel]
    · simp only [mEntM, sset_ne _ _ (nek (by decide) : ((34, 0, 0, 0) : KN) ≠ (32, 0, 0, 0)), sset_ne _ _ (nek (by decide) : ((30, 0, 0, 0) : KN) ≠ (34, 0, 0, 0)), sset_ne _ _ (nek (by decide) : ((30, 0, 0, 0) : KN) ≠ (32, 0, 0, 0)), th_see (k := (32, 0, 0, 0)) (by decide), th_see (k := (34, 0, 0, 0)) (by decide)] <;> rfl
  · skip
    exact absurd c_20 (by omega)

set_option maxHeartbeats 4000000 in
set_option maxRecDepth 100000 in
theorem m_X7_tell_1 {l : Launch} {D : va_G} {tc : TC} {dz : Nat} {ad : KN → Nat} {Ks : List KN} {gm : GM} (I : Mem) (hL : LV gm Ks) (n : Nat) (hn : I (30, 0, 0, 0) 1 = nI n) (hn10 : n ≤ 10) (x y z w : Int32) (h0 : (knwB I n x y && isFld z) = false) : MI l yX7_tell cX7_tell 8 (Option.some ClassFile.FieldType.int) 3 D tc dz ad Ks (lay tc ad gm dz I) [.ref (ad (30, 0, 0, 0)), .int x, .int y, .int z, .int w] (nI 0) (lay tc ad gm dz (thM I 1)) := by
  intro sz
  refine x_ofW (by decide +kernel) (Nat.le_of_ble_eq_true rfl) (fun pp ee s mm bel meth cd ls X hr hin hz h hl => ?_)
  subst hz
  obtain ⟨hx, hb, hmaxL, hown, hts⟩ := id X.1
  have hl : lv_has ls 8 [(0, .ref (ad (30, 0, 0, 0))), (1, .int x), (2, .int y), (3, .int z), (4, .int w)] := hl
  refine lv_aload_n hx hb dX7_tell_0 rfl (lv_at hl 0 rfl) ?_
  refine lv_iload_n hx hb dX7_tell_1 rfl (lv_at hl 1 rfl) ?_
  refine lv_iload_n hx hb dX7_tell_2 rfl (lv_at hl 2 rfl) ?_
  refine x_doneI X h (x_runV X h (k := (30, 0, 0, 0)) (m_X7_isKnown I hL n hn hn10 x y _) F_X7_isKnown q874 q876 q6 (hL (30, 0, 0, 0) ⟨by decide, rfl, rfl, rfl⟩) rfl rfl rfl (by decide) (by decide) ⟨Nat.le_refl _, Nat.le_refl _⟩ hl.1 (Nat.le_of_ble_eq_true rfl) dX7_tell_3 rfl) (fun H locs h => ?_)
  refine b_if_eq (tgt := 20) hx hb dX7_tell_6 (by decide) (fun c_6 => ?_) (fun c_6 => ?_)
  · skip
    refine lv_iconst (v := nI 0) hx hb dX7_tell_20 (by decide) ?_
    refine lv_istore (lv' := [(5, .int (nI 0)), (0, .ref (ad (30, 0, 0, 0))), (1, .int x), (2, .int y), (3, .int z), (4, .int w)]) hx hb dX7_tell_21 hl (by decide) rfl (fun ls hl => ?_)
    refine lv_aload_n hx hb dX7_tell_23 rfl (lv_at hl 1 rfl) ?_
    refine lv_iload hx hb dX7_tell_24 (lv_at hl 0 rfl) ?_
    refine lv_if_ne (tgt := 33) hx hb dX7_tell_26 (by decide) (fun c => absurd c (by decide)) (fun _ => ?_)
    refine lv_iconst (v := nI 1) hx hb dX7_tell_29 (by decide) ?_
    refine lv_goto (tgt := 64) hx hb dX7_tell_30 (by decide) ?_
    refine x_doneI X h (x_runV X h (k := (30, 0, 0, 0)) (m_X7_fails1 I hL _) F_X7_fails q863 q865 q5 (hL (30, 0, 0, 0) ⟨by decide, rfl, rfl, rfl⟩) rfl rfl rfl (by decide) (by decide) ⟨Nat.le_refl _, Nat.le_refl _⟩ hl.1 (Nat.le_of_ble_eq_true rfl) dX7_tell_64 rfl) (fun H locs h => ?_)
    refine b_if_eq (tgt := 72) hx hb dX7_tell_67 (by decide) (fun c => (Bool.noConfusion c)) (fun _ => ?_)
    refine lv_iconst (v := nI 0) hx hb dX7_tell_70 (by decide) ?_
    exact x_iret X h hr rfl rfl (fun _ _ => rfl) dX7_tell_71
  · skip
    refine lv_iload_n hx hb dX7_tell_9 rfl (lv_at hl 3 rfl) ?_
    refine x_doneI X h (x_runS X h (m_X7_isField I z _) F_X7_isField q882 q883 rfl (by decide) (by decide) ⟨Nat.le_refl _, Nat.le_refl _⟩ hl.1 (Nat.le_of_ble_eq_true rfl) dX7_tell_10 rfl) (fun H locs h => ?_)
    refine b_if_eq (tgt := 20) hx hb dX7_tell_13 (by decide) (fun c_13 => ?_) (fun c_13 => ?_)
    · skip
      refine lv_iconst (v := nI 0) hx hb dX7_tell_20 (by decide) ?_
      refine lv_istore (lv' := [(5, .int (nI 0)), (0, .ref (ad (30, 0, 0, 0))), (1, .int x), (2, .int y), (3, .int z), (4, .int w)]) hx hb dX7_tell_21 hl (by decide) rfl (fun ls hl => ?_)
      refine lv_aload_n hx hb dX7_tell_23 rfl (lv_at hl 1 rfl) ?_
      refine lv_iload hx hb dX7_tell_24 (lv_at hl 0 rfl) ?_
      refine lv_if_ne (tgt := 33) hx hb dX7_tell_26 (by decide) (fun c => absurd c (by decide)) (fun _ => ?_)
      refine lv_iconst (v := nI 1) hx hb dX7_tell_29 (by decide) ?_
      refine lv_goto (tgt := 64) hx hb dX7_tell_30 (by decide) ?_
      refine x_doneI X h (x_runV X h (k := (30, 0, 0, 0)) (m_X7_fails1 I hL _) F_X7_fails q863 q865 q5 (hL (30, 0, 0, 0) ⟨by decide, rfl, rfl, rfl⟩) rfl rfl rfl (by decide) (by decide) ⟨Nat.le_refl _, Nat.le_refl _⟩ hl.1 (Nat.le_of_ble_eq_true rfl) dX7_tell_64 rfl) (fun H locs h => ?_)
      refine b_if_eq (tgt := 72) hx hb dX7_tell_67 (by decide) (fun c => (Bool.noConfusion c)) (fun _ => ?_)
      refine lv_iconst (v := nI 0) hx hb dX7_tell_70 (by decide) ?_
      exact x_iret X h hr rfl rfl (fun _ _ => rfl) dX7_tell_71
    · skip
      exact absurd h0 (by rw [c_6, c_13]; decide)

set_option maxHeartbeats 4000000 in
set_option maxRecDepth 100000 in
theorem m_X7_tell_2 {l : Launch} {D : va_G} {tc : TC} {dz : Nat} {ad : KN → Nat} {Ks : List KN} {gm : GM} (I : Mem) (hL : LV gm Ks) (n : Nat) (hn : I (30, 0, 0, 0) 1 = nI n) (hn10 : n ≤ 10) (d e f : Nat) (hd : d < 6) (hen : e < n) (hf : f < 4) (hk : nz ((I (34, 0, 0, 0)) (10 * d + e)) = true) (w : Int32) (hw : inR w (-1) (nI 999) = false) : MI l yX7_tell cX7_tell 8 (Option.some ClassFile.FieldType.int) 3 D tc dz ad Ks (lay tc ad gm dz I) [.ref (ad (30, 0, 0, 0)), .int (nI d), .int (nI e), .int (nI f), .int w] (nI 0) (lay tc ad gm dz (thM I 2)) := by
  intro sz
  refine x_ofW (by decide +kernel) (Nat.le_of_ble_eq_true rfl) (fun pp ee s mm bel meth cd ls X hr hin hz h hl => ?_)
  subst hz
  obtain ⟨hx, hb, hmaxL, hown, hts⟩ := id X.1
  have hl : lv_has ls 8 [(0, .ref (ad (30, 0, 0, 0))), (1, .int (nI d)), (2, .int (nI e)), (3, .int (nI f)), (4, .int w)] := hl
  refine lv_aload_n hx hb dX7_tell_0 rfl (lv_at hl 0 rfl) ?_
  refine lv_iload_n hx hb dX7_tell_1 rfl (lv_at hl 1 rfl) ?_
  refine lv_iload_n hx hb dX7_tell_2 rfl (lv_at hl 2 rfl) ?_
  refine x_doneI X h (x_runV X h (k := (30, 0, 0, 0)) (m_X7_isKnown_in I hL n hn hn10 d e (by omega) (by omega) _) F_X7_isKnown q874 q876 q6 (hL (30, 0, 0, 0) ⟨by decide, rfl, rfl, rfl⟩) rfl rfl rfl (by decide) (by decide) ⟨Nat.le_refl _, Nat.le_refl _⟩ hl.1 (Nat.le_of_ble_eq_true rfl) dX7_tell_3 rfl) (fun H locs h => ?_)
  refine b_if_eq (tgt := 20) hx hb dX7_tell_6 (by decide) (fun c => by rw [hk] at c; cases c) (fun _ => ?_)
  refine lv_iload_n hx hb dX7_tell_9 rfl (lv_at hl 3 rfl) ?_
  refine x_doneI X h (x_runS X h (m_X7_isField_in I f (by omega) _) F_X7_isField q882 q883 rfl (by decide) (by decide) ⟨Nat.le_refl _, Nat.le_refl _⟩ hl.1 (Nat.le_of_ble_eq_true rfl) dX7_tell_10 rfl) (fun H locs h => ?_)
  refine b_if_eq (tgt := 20) hx hb dX7_tell_13 (by decide) (fun c => (Bool.noConfusion c)) (fun _ => ?_)
  refine lv_iconst (v := nI 1) hx hb dX7_tell_16 (by decide) ?_
  refine lv_goto (tgt := 21) hx hb dX7_tell_17 (by decide) ?_
  refine lv_istore (lv' := [(5, .int (nI 1)), (0, .ref (ad (30, 0, 0, 0))), (1, .int (nI d)), (2, .int (nI e)), (3, .int (nI f)), (4, .int w)]) hx hb dX7_tell_21 hl (by decide) rfl (fun ls hl => ?_)
  refine lv_aload_n hx hb dX7_tell_23 rfl (lv_at hl 1 rfl) ?_
  refine lv_iload hx hb dX7_tell_24 (lv_at hl 0 rfl) ?_
  refine lv_if_ne (tgt := 33) hx hb dX7_tell_26 (by decide) (fun _ => ?_) (fun c => absurd c (by decide))
  refine lv_iload hx hb dX7_tell_33 (lv_at hl 5 rfl) ?_
  refine lv_iconst (v := (-1)) hx hb dX7_tell_35 (by decide) ?_
  refine lv_sipush (v := nI 999) hx hb dX7_tell_36 (by decide) ?_
  refine x_doneI X h (x_runS X h (m_X7_isIn I w (-1) (nI 999) _) F_X7_isIn q860 q861 rfl (by decide) (by decide) ⟨Nat.le_refl _, Nat.le_refl _⟩ hl.1 (Nat.le_of_ble_eq_true rfl) dX7_tell_39 rfl) (fun H locs h => ?_)
  refine b_if_ne (tgt := 49) hx hb dX7_tell_42 (by decide) (fun c => by rw [hw] at c; cases c) (fun _ => ?_)
  refine lv_iconst (v := nI 2) hx hb dX7_tell_45 (by decide) ?_
  refine lv_goto (tgt := 64) hx hb dX7_tell_46 (by decide) ?_
  refine x_doneI X h (x_runV X h (k := (30, 0, 0, 0)) (m_X7_fails2 I hL _) F_X7_fails q863 q865 q5 (hL (30, 0, 0, 0) ⟨by decide, rfl, rfl, rfl⟩) rfl rfl rfl (by decide) (by decide) ⟨Nat.le_refl _, Nat.le_refl _⟩ hl.1 (Nat.le_of_ble_eq_true rfl) dX7_tell_64 rfl) (fun H locs h => ?_)
  refine b_if_eq (tgt := 72) hx hb dX7_tell_67 (by decide) (fun c => (Bool.noConfusion c)) (fun _ => ?_)
  refine lv_iconst (v := nI 0) hx hb dX7_tell_70 (by decide) ?_
  exact x_iret X h hr rfl rfl (fun _ _ => rfl) dX7_tell_71

set_option maxHeartbeats 4000000 in
set_option maxRecDepth 100000 in
theorem m_X7_tell_3 {l : Launch} {D : va_G} {tc : TC} {dz : Nat} {ad : KN → Nat} {Ks : List KN} {gm : GM} (I : Mem) (hL : LV gm Ks) (n : Nat) (hn : I (30, 0, 0, 0) 1 = nI n) (hn10 : n ≤ 10) (d e f : Nat) (hd : d < 6) (hen : e < n) (hf : f < 4) (hk : nz ((I (34, 0, 0, 0)) (10 * d + e)) = true) (w : Int32) (hw : inR w (-1) (nI 999) = true) (hmay : mayB I d e f = false) : MI l yX7_tell cX7_tell 8 (Option.some ClassFile.FieldType.int) 3 D tc dz ad Ks (lay tc ad gm dz I) [.ref (ad (30, 0, 0, 0)), .int (nI d), .int (nI e), .int (nI f), .int w] (nI 0) (lay tc ad gm dz (thM I 3)) := by
  intro sz
  refine x_ofW (by decide +kernel) (Nat.le_of_ble_eq_true rfl) (fun pp ee s mm bel meth cd ls X hr hin hz h hl => ?_)
  subst hz
  obtain ⟨hx, hb, hmaxL, hown, hts⟩ := id X.1
  have hl : lv_has ls 8 [(0, .ref (ad (30, 0, 0, 0))), (1, .int (nI d)), (2, .int (nI e)), (3, .int (nI f)), (4, .int w)] := hl
  refine lv_aload_n hx hb dX7_tell_0 rfl (lv_at hl 0 rfl) ?_
  refine lv_iload_n hx hb dX7_tell_1 rfl (lv_at hl 1 rfl) ?_
  refine lv_iload_n hx hb dX7_tell_2 rfl (lv_at hl 2 rfl) ?_
  refine x_doneI X h (x_runV X h (k := (30, 0, 0, 0)) (m_X7_isKnown_in I hL n hn hn10 d e (by omega) (by omega) _) F_X7_isKnown q874 q876 q6 (hL (30, 0, 0, 0) ⟨by decide, rfl, rfl, rfl⟩) rfl rfl rfl (by decide) (by decide) ⟨Nat.le_refl _, Nat.le_refl _⟩ hl.1 (Nat.le_of_ble_eq_true rfl) dX7_tell_3 rfl) (fun H locs h => ?_)
  refine b_if_eq (tgt := 20) hx hb dX7_tell_6 (by decide) (fun c => by rw [hk] at c; cases c) (fun _ => ?_)
  refine lv_iload_n hx hb dX7_tell_9 rfl (lv_at hl 3 rfl) ?_
  refine x_doneI X h (x_runS X h (m_X7_isField_in I f (by omega) _) F_X7_isField q882 q883 rfl (by decide) (by decide) ⟨Nat.le_refl _, Nat.le_refl _⟩ hl.1 (Nat.le_of_ble_eq_true rfl) dX7_tell_10 rfl) (fun H locs h => ?_)
  refine b_if_eq (tgt := 20) hx hb dX7_tell_13 (by decide) (fun c => (Bool.noConfusion c)) (fun _ => ?_)
  refine lv_iconst (v := nI 1) hx hb dX7_tell_16 (by decide) ?_
  refine lv_goto (tgt := 21) hx hb dX7_tell_17 (by decide) ?_
  refine lv_istore (lv' := [(5, .int (nI 1)), (0, .ref (ad (30, 0, 0, 0))), (1, .int (nI d)), (2, .int (nI e)), (3, .int (nI f)), (4, .int w)]) hx hb dX7_tell_21 hl (by decide) rfl (fun ls hl => ?_)
  refine lv_aload_n hx hb dX7_tell_23 rfl (lv_at hl 1 rfl) ?_
  refine lv_iload hx hb dX7_tell_24 (lv_at hl 0 rfl) ?_
  refine lv_if_ne (tgt := 33) hx hb dX7_tell_26 (by decide) (fun _ => ?_) (fun c => absurd c (by decide))
  refine lv_iload hx hb dX7_tell_33 (lv_at hl 5 rfl) ?_
  refine lv_iconst (v := (-1)) hx hb dX7_tell_35 (by decide) ?_
  refine lv_sipush (v := nI 999) hx hb dX7_tell_36 (by decide) ?_
  refine x_doneI X h (x_runS X h (m_X7_isIn I w (-1) (nI 999) _) F_X7_isIn q860 q861 rfl (by decide) (by decide) ⟨Nat.le_refl _, Nat.le_refl _⟩ hl.1 (Nat.le_of_ble_eq_true rfl) dX7_tell_39 rfl) (fun H locs h => ?_)
  refine b_if_ne (tgt := 49) hx hb dX7_tell_42 (by decide) (fun _ => ?_) (fun c => by rw [hw] at c; cases c)
  refine lv_aload_n hx hb dX7_tell_49 rfl (lv_at hl 1 rfl) ?_
  refine lv_iload_n hx hb dX7_tell_50 rfl (lv_at hl 2 rfl) ?_
  refine lv_iload_n hx hb dX7_tell_51 rfl (lv_at hl 3 rfl) ?_
  refine lv_iload_n hx hb dX7_tell_52 rfl (lv_at hl 4 rfl) ?_
  refine x_doneI X h (x_runV X h (k := (30, 0, 0, 0)) (m_X7_may I hL d e (by omega) (by omega) f _) F_X7_may q885 q887 q8 (hL (30, 0, 0, 0) ⟨by decide, rfl, rfl, rfl⟩) rfl rfl rfl (by decide) (by decide) ⟨Nat.le_refl _, Nat.le_refl _⟩ hl.1 (Nat.le_of_ble_eq_true rfl) dX7_tell_53 rfl) (fun H locs h => ?_)
  refine b_if_eq (tgt := 63) hx hb dX7_tell_56 (by decide) (fun _ => ?_) (fun c => by rw [hmay] at c; cases c)
  refine lv_iconst (v := nI 3) hx hb dX7_tell_63 (by decide) ?_
  refine x_doneI X h (x_runV X h (k := (30, 0, 0, 0)) (m_X7_fails3 I hL _) F_X7_fails q863 q865 q5 (hL (30, 0, 0, 0) ⟨by decide, rfl, rfl, rfl⟩) rfl rfl rfl (by decide) (by decide) ⟨Nat.le_refl _, Nat.le_refl _⟩ hl.1 (Nat.le_of_ble_eq_true rfl) dX7_tell_64 rfl) (fun H locs h => ?_)
  refine b_if_eq (tgt := 72) hx hb dX7_tell_67 (by decide) (fun c => (Bool.noConfusion c)) (fun _ => ?_)
  refine lv_iconst (v := nI 0) hx hb dX7_tell_70 (by decide) ?_
  exact x_iret X h hr rfl rfl (fun _ _ => rfl) dX7_tell_71

set_option maxHeartbeats 4000000 in
set_option maxRecDepth 100000 in
theorem m_X7_tell_0 {l : Launch} {D : va_G} {tc : TC} {dz : Nat} {ad : KN → Nat} {Ks : List KN} {gm : GM} (I : Mem) (hL : LV gm Ks) (n : Nat) (hn : I (30, 0, 0, 0) 1 = nI n) (hn10 : n ≤ 10) (d e f : Nat) (hd : d < 6) (hen : e < n) (hf : f < 4) (hk : nz ((I (34, 0, 0, 0)) (10 * d + e)) = true) (w : Int32) (hw : inR w (-1) (nI 999) = true) (hmay : mayB I d e f = true) : MI l yX7_tell cX7_tell 8 (Option.some ClassFile.FieldType.int) 3 D tc dz ad Ks (lay tc ad gm dz I) [.ref (ad (30, 0, 0, 0)), .int (nI d), .int (nI e), .int (nI f), .int w] (nI (cnF I d e f)) (lay tc ad gm dz (mtlM I d e f w)) := by
  intro sz
  refine x_ofW (by decide +kernel) (Nat.le_of_ble_eq_true rfl) (fun pp ee s mm bel meth cd ls X hr hin hz h hl => ?_)
  subst hz
  obtain ⟨hx, hb, hmaxL, hown, hts⟩ := id X.1
  have hl : lv_has ls 8 [(0, .ref (ad (30, 0, 0, 0))), (1, .int (nI d)), (2, .int (nI e)), (3, .int (nI f)), (4, .int w)] := hl
  refine lv_aload_n hx hb dX7_tell_0 rfl (lv_at hl 0 rfl) ?_
  refine lv_iload_n hx hb dX7_tell_1 rfl (lv_at hl 1 rfl) ?_
  refine lv_iload_n hx hb dX7_tell_2 rfl (lv_at hl 2 rfl) ?_
  refine x_doneI X h (x_runV X h (k := (30, 0, 0, 0)) (m_X7_isKnown_in I hL n hn hn10 d e (by omega) (by omega) _) F_X7_isKnown q874 q876 q6 (hL (30, 0, 0, 0) ⟨by decide, rfl, rfl, rfl⟩) rfl rfl rfl (by decide) (by decide) ⟨Nat.le_refl _, Nat.le_refl _⟩ hl.1 (Nat.le_of_ble_eq_true rfl) dX7_tell_3 rfl) (fun H locs h => ?_)
  refine b_if_eq (tgt := 20) hx hb dX7_tell_6 (by decide) (fun c => by rw [hk] at c; cases c) (fun _ => ?_)
  refine lv_iload_n hx hb dX7_tell_9 rfl (lv_at hl 3 rfl) ?_
  refine x_doneI X h (x_runS X h (m_X7_isField_in I f (by omega) _) F_X7_isField q882 q883 rfl (by decide) (by decide) ⟨Nat.le_refl _, Nat.le_refl _⟩ hl.1 (Nat.le_of_ble_eq_true rfl) dX7_tell_10 rfl) (fun H locs h => ?_)
  refine b_if_eq (tgt := 20) hx hb dX7_tell_13 (by decide) (fun c => (Bool.noConfusion c)) (fun _ => ?_)
  refine lv_iconst (v := nI 1) hx hb dX7_tell_16 (by decide) ?_
  refine lv_goto (tgt := 21) hx hb dX7_tell_17 (by decide) ?_
  refine lv_istore (lv' := [(5, .int (nI 1)), (0, .ref (ad (30, 0, 0, 0))), (1, .int (nI d)), (2, .int (nI e)), (3, .int (nI f)), (4, .int w)]) hx hb dX7_tell_21 hl (by decide) rfl (fun ls hl => ?_)
  refine lv_aload_n hx hb dX7_tell_23 rfl (lv_at hl 1 rfl) ?_
  refine lv_iload hx hb dX7_tell_24 (lv_at hl 0 rfl) ?_
  refine lv_if_ne (tgt := 33) hx hb dX7_tell_26 (by decide) (fun _ => ?_) (fun c => absurd c (by decide))
  refine lv_iload hx hb dX7_tell_33 (lv_at hl 5 rfl) ?_
  refine lv_iconst (v := (-1)) hx hb dX7_tell_35 (by decide) ?_
  refine lv_sipush (v := nI 999) hx hb dX7_tell_36 (by decide) ?_
  refine x_doneI X h (x_runS X h (m_X7_isIn I w (-1) (nI 999) _) F_X7_isIn q860 q861 rfl (by decide) (by decide) ⟨Nat.le_refl _, Nat.le_refl _⟩ hl.1 (Nat.le_of_ble_eq_true rfl) dX7_tell_39 rfl) (fun H locs h => ?_)
  refine b_if_ne (tgt := 49) hx hb dX7_tell_42 (by decide) (fun _ => ?_) (fun c => by rw [hw] at c; cases c)
  refine lv_aload_n hx hb dX7_tell_49 rfl (lv_at hl 1 rfl) ?_
  refine lv_iload_n hx hb dX7_tell_50 rfl (lv_at hl 2 rfl) ?_
  refine lv_iload_n hx hb dX7_tell_51 rfl (lv_at hl 3 rfl) ?_
  refine lv_iload_n hx hb dX7_tell_52 rfl (lv_at hl 4 rfl) ?_
  refine x_doneI X h (x_runV X h (k := (30, 0, 0, 0)) (m_X7_may I hL d e (by omega) (by omega) f _) F_X7_may q885 q887 q8 (hL (30, 0, 0, 0) ⟨by decide, rfl, rfl, rfl⟩) rfl rfl rfl (by decide) (by decide) ⟨Nat.le_refl _, Nat.le_refl _⟩ hl.1 (Nat.le_of_ble_eq_true rfl) dX7_tell_53 rfl) (fun H locs h => ?_)
  refine b_if_eq (tgt := 63) hx hb dX7_tell_56 (by decide) (fun c => by rw [hmay] at c; cases c) (fun _ => ?_)
  refine lv_iconst (v := nI 0) hx hb dX7_tell_59 (by decide) ?_
  refine lv_goto (tgt := 64) hx hb dX7_tell_60 (by decide) ?_
  refine x_doneI X h (x_runV X h (k := (30, 0, 0, 0)) (m_X7_fails0 I hL _) F_X7_fails q863 q865 q5 (hL (30, 0, 0, 0) ⟨by decide, rfl, rfl, rfl⟩) rfl rfl rfl (by decide) (by decide) ⟨Nat.le_refl _, Nat.le_refl _⟩ hl.1 (Nat.le_of_ble_eq_true rfl) dX7_tell_64 rfl) (fun H locs h => ?_)
  refine b_if_eq (tgt := 72) hx hb dX7_tell_67 (by decide) (fun _ => ?_) (fun c => (Bool.noConfusion c))
  refine lv_aload_n hx hb dX7_tell_72 rfl (lv_at hl 1 rfl) ?_
  refine lv_iload_n hx hb dX7_tell_73 rfl (lv_at hl 2 rfl) ?_
  refine lv_iload_n hx hb dX7_tell_74 rfl (lv_at hl 3 rfl) ?_
  refine lv_iload_n hx hb dX7_tell_75 rfl (lv_at hl 4 rfl) ?_
  refine x_doneI X h (x_runV X h (k := (30, 0, 0, 0)) (m_X7_count (thM I 0) hL d e (by omega) (by omega) f (by omega) _) F_X7_count q889 q891 q9 (hL (30, 0, 0, 0) ⟨by decide, rfl, rfl, rfl⟩) rfl rfl rfl (by decide) (by decide) ⟨Nat.le_refl _, Nat.le_refl _⟩ hl.1 (Nat.le_of_ble_eq_true rfl) dX7_tell_76 rfl) (fun H locs h => ?_)
  refine lv_istore (lv' := [(6, .int (nI (cnF (thM I 0) d e f))), (5, .int (nI 1)), (0, .ref (ad (30, 0, 0, 0))), (1, .int (nI d)), (2, .int (nI e)), (3, .int (nI f)), (4, .int w)]) hx hb dX7_tell_79 hl (by decide) rfl (fun ls hl => ?_)
  refine lv_iconst (v := nI 0) hx hb dX7_tell_81 (by decide) ?_
  refine lv_istore (lv' := [(7, .int (nI 0)), (6, .int (nI (cnF (thM I 0) d e f))), (5, .int (nI 1)), (0, .ref (ad (30, 0, 0, 0))), (1, .int (nI d)), (2, .int (nI e)), (3, .int (nI f)), (4, .int w)]) hx hb dX7_tell_82 hl (by decide) rfl (fun ls hl => ?_)
  refine y_loop (D := D) (A := wA ad Ks s.heap.size) (ad := ad) (Ks := Ks) (nL := 8) (fun i : Nat => lay tc ad gm dz (sset (thM I 0) (35, 0, 0, 0) (rf (24 * (10 * d + e) + 6 * f) ((24 * (10 * d + e) + 6 * f) + i) z0 (I (35, 0, 0, 0))))) (fun i => [(7, .int (nI i)), (6, .int (nI (cnF (thM I 0) d e f))), (4, .int w), (3, .int (nI f)), (2, .int (nI e)), (1, .int (nI d)), (0, .ref (ad (30, 0, 0, 0)))]) (fun _ => []) (fun i : Nat => i ≤ 6) (fun i => 6 - i) (fun i hi84 ih84 H locs ls h hl => ?_) 0 (Nat.zero_le _) (h.eq (congrArg (lay tc ad gm dz) (by simp only [Nat.add_zero, rf_0]; rw [show (I (35, 0, 0, 0)) = (thM I 0) (35, 0, 0, 0) from (th_see (by decide)).symm, sset_id]))) (lv_sub hl [0, 1, 7, 6, 5, 4, 3] rfl) rfl
  have h : Sx D (wA ad Ks s.heap.size) ad Ks (lay tc ad gm dz (sset (thM I 0) (35, 0, 0, 0) (rf (24 * (10 * d + e) + 6 * f) ((24 * (10 * d + e) + 6 * f) + i) z0 (I (35, 0, 0, 0))))) s H locs := h
  have hl : lv_has ls 8 [(7, .int (nI i)), (6, .int (nI (cnF (thM I 0) d e f))), (4, .int w), (3, .int (nI f)), (2, .int (nI e)), (1, .int (nI d)), (0, .ref (ad (30, 0, 0, 0)))] := hl
  refine lv_iload hx hb dX7_tell_84 (lv_at hl 0 rfl) ?_
  refine lv_bipush (v := nI 6) hx hb dX7_tell_86 (by decide) ?_
  refine n_icmp_ge (tgt := 111) hx hb (by omega) (by omega) dX7_tell_88 (by decide) (fun c_88 => ?_) (fun c_88 => ?_)
  · skip
    obtain rfl : i = 6 := by omega
    have h := h.eq (congrArg (lay tc ad gm dz) (show (sset (thM I 0) (35, 0, 0, 0) (rf (24 * (10 * d + e) + 6 * f) ((24 * (10 * d + e) + 6 * f) + 6) z0 (I (35, 0, 0, 0)))) = (sset (thM I 0) (35, 0, 0, 0) (mt0 I d e f)) from rfl))
    refine lv_aload_n hx hb dX7_tell_111 rfl (lv_at hl 6 rfl) ?_
    refine gf_Model_acts X h (hL (30, 0, 0, 0) ⟨by decide, rfl, rfl, rfl⟩) q797 dX7_tell_112 ?_
    refine lv_iload_n hx hb dX7_tell_115 rfl (lv_at hl 5 rfl) ?_
    refine lv_dup2_11 hx hb dX7_tell_116 rfl rfl ?_
    refine y_ald X h (fun _ => rfl) (by decide) (hL (31, 0, 0, 0) ⟨by decide, rfl, rfl, rfl⟩) (by omega) (v := (I (31, 0, 0, 0)) d) (by rw [sset_ne _ _ (nek (by decide) : ((31, 0, 0, 0) : KN) ≠ (35, 0, 0, 0)), th_see (by decide)]) dX7_tell_117 ?_
    refine lv_iconst (v := nI 1) hx hb dX7_tell_118 (by decide) ?_
    refine lv_iadd hx hb dX7_tell_119 ?_
    refine y_ast X h (fun _ => rfl) (by decide) (hL (31, 0, 0, 0) ⟨by decide, rfl, rfl, rfl⟩) (by omega) dX7_tell_120 (fun H locs h => ?_)
    refine lv_iload_n hx hb dX7_tell_121 rfl (lv_at hl 5 rfl) ?_
    refine lv_iload_n hx hb dX7_tell_122 rfl (lv_at hl 4 rfl) ?_
    refine lv_iload_n hx hb dX7_tell_123 rfl (lv_at hl 3 rfl) ?_
    refine lv_iload_n hx hb dX7_tell_124 rfl (lv_at hl 5 rfl) ?_
    refine x_doneI X h (x_runS X h (m_X7_place (sset (sset (thM I 0) (35, 0, 0, 0) (mt0 I d e f)) (31, 0, 0, 0) (upd ((sset (thM I 0) (35, 0, 0, 0) (mt0 I d e f)) (31, 0, 0, 0)) d (((I (31, 0, 0, 0)) d) + (nI 1)))) d e f d _) F_X7_place q893 q894 rfl (by decide) (by decide) ⟨Nat.le_refl _, Nat.le_refl _⟩ hl.1 (Nat.le_of_ble_eq_true rfl) dX7_tell_125 rfl) (fun H locs h => ?_)
    refine lv_istore (lv' := [(7, .int (nI (24 * (10 * d + e) + 6 * f + d))), (6, .int (nI (cnF (thM I 0) d e f))), (4, .int w), (3, .int (nI f)), (2, .int (nI e)), (1, .int (nI d)), (0, .ref (ad (30, 0, 0, 0)))]) hx hb dX7_tell_128 hl (by decide) rfl (fun ls hl => ?_)
    refine lv_aload_n hx hb dX7_tell_130 rfl (lv_at hl 6 rfl) ?_
    refine gf_Model_seen X h (hL (30, 0, 0, 0) ⟨by decide, rfl, rfl, rfl⟩) q804 dX7_tell_131 ?_
    refine lv_iload hx hb dX7_tell_134 (lv_at hl 0 rfl) ?_
    refine lv_aload_n hx hb dX7_tell_136 rfl (lv_at hl 6 rfl) ?_
    refine gf_Model_acts X h (hL (30, 0, 0, 0) ⟨by decide, rfl, rfl, rfl⟩) q797 dX7_tell_137 ?_
    refine lv_iload_n hx hb dX7_tell_140 rfl (lv_at hl 5 rfl) ?_
    refine y_ald X h (fun _ => rfl) (by decide) (hL (31, 0, 0, 0) ⟨by decide, rfl, rfl, rfl⟩) (by omega) (v := ((I (31, 0, 0, 0)) d + nI 1)) (by first | (rw [sset_eq]; simp only [upd, ↓reduceIte]) | (rw [sset_ne _ _ (nek (by decide) : ((31, 0, 0, 0) : KN) ≠ (37, 0, 0, 0)), sset_eq]; simp only [upd, ↓reduceIte])) dX7_tell_141 ?_
    refine y_ast X h (fun _ => rfl) (by decide) (hL (37, 0, 0, 0) ⟨by decide, rfl, rfl, rfl⟩) (by omega) dX7_tell_142 (fun H locs h => ?_)
    refine lv_iload hx hb dX7_tell_143 (lv_at hl 2 rfl) ?_
    refine lv_if_lt (tgt := 170) hx hb dX7_tell_145 (by decide) (fun c_145 => ?_) (fun c_145 => ?_)
    · skip
      refine lv_iload hx hb dX7_tell_170 (lv_at hl 1 rfl) ?_
      refine x_iret X h hr rfl ?_ (fun k _ => congrFun (congrArg (lay tc ad gm dz) ?_) k) dX7_tell_172
      · exact congrArg nI (cnF_congr (th_see (by decide)) d e f)
      · simp only [mtlM, mt1, if_pos c_145, sset_ne _ _ (nek (by decide) : ((31, 0, 0, 0) : KN) ≠ (35, 0, 0, 0)), sset_ne _ _ (nek (by decide) : ((37, 0, 0, 0) : KN) ≠ (31, 0, 0, 0)), sset_ne _ _ (nek (by decide) : ((37, 0, 0, 0) : KN) ≠ (35, 0, 0, 0)), sset_ne _ _ (nek (by decide) : ((36, 0, 0, 0) : KN) ≠ (35, 0, 0, 0)), sset_ne _ _ (nek (by decide) : ((36, 0, 0, 0) : KN) ≠ (37, 0, 0, 0)), sset_ne _ _ (nek (by decide) : ((36, 0, 0, 0) : KN) ≠ (31, 0, 0, 0)), sset_ne _ _ (nek (by decide) : ((35, 0, 0, 0) : KN) ≠ (37, 0, 0, 0)), sset_ne _ _ (nek (by decide) : ((35, 0, 0, 0) : KN) ≠ (31, 0, 0, 0)), sset_eq, th_see (k := (31, 0, 0, 0)) (by decide), th_see (k := (37, 0, 0, 0)) (by decide), th_see (k := (36, 0, 0, 0)) (by decide)] <;> rfl
    · skip
      refine lv_aload_n hx hb dX7_tell_148 rfl (lv_at hl 6 rfl) ?_
      refine gf_Model_act X h (hL (30, 0, 0, 0) ⟨by decide, rfl, rfl, rfl⟩) q802 dX7_tell_149 ?_
      refine lv_iload hx hb dX7_tell_152 (lv_at hl 0 rfl) ?_
      refine lv_aload_n hx hb dX7_tell_154 rfl (lv_at hl 6 rfl) ?_
      refine gf_Model_acts X h (hL (30, 0, 0, 0) ⟨by decide, rfl, rfl, rfl⟩) q797 dX7_tell_155 ?_
      refine lv_iload_n hx hb dX7_tell_158 rfl (lv_at hl 5 rfl) ?_
      refine y_ald X h (fun _ => rfl) (by decide) (hL (31, 0, 0, 0) ⟨by decide, rfl, rfl, rfl⟩) (by omega) (v := ((I (31, 0, 0, 0)) d + nI 1)) (by first | (rw [sset_ne _ _ (nek (by decide) : ((31, 0, 0, 0) : KN) ≠ (37, 0, 0, 0)), sset_eq]; simp only [upd, ↓reduceIte]) | (rw [sset_ne _ _ (nek (by decide) : ((31, 0, 0, 0) : KN) ≠ (35, 0, 0, 0)), sset_ne _ _ (nek (by decide) : ((31, 0, 0, 0) : KN) ≠ (37, 0, 0, 0)), sset_eq]; simp only [upd, ↓reduceIte])) dX7_tell_159 ?_
      refine y_ast X h (fun _ => rfl) (by decide) (hL (35, 0, 0, 0) ⟨by decide, rfl, rfl, rfl⟩) (by omega) dX7_tell_160 (fun H locs h => ?_)
      refine lv_aload_n hx hb dX7_tell_161 rfl (lv_at hl 6 rfl) ?_
      refine gf_Model_value X h (hL (30, 0, 0, 0) ⟨by decide, rfl, rfl, rfl⟩) q803 dX7_tell_162 ?_
      refine lv_iload hx hb dX7_tell_165 (lv_at hl 0 rfl) ?_
      refine lv_iload hx hb dX7_tell_167 (lv_at hl 2 rfl) ?_
      refine y_ast X h (fun _ => rfl) (by decide) (hL (36, 0, 0, 0) ⟨by decide, rfl, rfl, rfl⟩) (by omega) dX7_tell_169 (fun H locs h => ?_)
      refine lv_iload hx hb dX7_tell_170 (lv_at hl 1 rfl) ?_
      refine x_iret X h hr rfl ?_ (fun k _ => congrFun (congrArg (lay tc ad gm dz) ?_) k) dX7_tell_172
      · exact congrArg nI (cnF_congr (th_see (by decide)) d e f)
      · simp only [mtlM, mt1, if_neg c_145, sset_ne _ _ (nek (by decide) : ((31, 0, 0, 0) : KN) ≠ (35, 0, 0, 0)), sset_ne _ _ (nek (by decide) : ((37, 0, 0, 0) : KN) ≠ (31, 0, 0, 0)), sset_ne _ _ (nek (by decide) : ((37, 0, 0, 0) : KN) ≠ (35, 0, 0, 0)), sset_ne _ _ (nek (by decide) : ((36, 0, 0, 0) : KN) ≠ (35, 0, 0, 0)), sset_ne _ _ (nek (by decide) : ((36, 0, 0, 0) : KN) ≠ (37, 0, 0, 0)), sset_ne _ _ (nek (by decide) : ((36, 0, 0, 0) : KN) ≠ (31, 0, 0, 0)), sset_ne _ _ (nek (by decide) : ((35, 0, 0, 0) : KN) ≠ (37, 0, 0, 0)), sset_ne _ _ (nek (by decide) : ((35, 0, 0, 0) : KN) ≠ (31, 0, 0, 0)), sset_eq, th_see (k := (31, 0, 0, 0)) (by decide), th_see (k := (37, 0, 0, 0)) (by decide), th_see (k := (36, 0, 0, 0)) (by decide)] <;> rfl
  · skip
    refine lv_aload_n hx hb dX7_tell_91 rfl (lv_at hl 6 rfl) ?_
    refine gf_Model_act X h (hL (30, 0, 0, 0) ⟨by decide, rfl, rfl, rfl⟩) q802 dX7_tell_92 ?_
    refine lv_iload_n hx hb dX7_tell_95 rfl (lv_at hl 5 rfl) ?_
    refine lv_iload_n hx hb dX7_tell_96 rfl (lv_at hl 4 rfl) ?_
    refine lv_iload_n hx hb dX7_tell_97 rfl (lv_at hl 3 rfl) ?_
    refine lv_iload hx hb dX7_tell_98 (lv_at hl 0 rfl) ?_
    refine x_doneI X h (x_runS X h (m_X7_place (sset (thM I 0) (35, 0, 0, 0) (rf (24 * (10 * d + e) + 6 * f) ((24 * (10 * d + e) + 6 * f) + i) z0 (I (35, 0, 0, 0)))) d e f i _) F_X7_place q893 q894 rfl (by decide) (by decide) ⟨Nat.le_refl _, Nat.le_refl _⟩ hl.1 (Nat.le_of_ble_eq_true rfl) dX7_tell_100 rfl) (fun H locs h => ?_)
    refine lv_iconst (v := nI 0) hx hb dX7_tell_103 (by decide) ?_
    refine y_ast X h (fun _ => rfl) (by decide) (hL (35, 0, 0, 0) ⟨by decide, rfl, rfl, rfl⟩) (by omega) dX7_tell_104 (fun H locs h => ?_)
    refine n_iinc (j := i) (n := 1) (lv' := [(7, .int (nI (i + 1))), (6, .int (nI (cnF (thM I 0) d e f))), (4, .int w), (3, .int (nI f)), (2, .int (nI e)), (1, .int (nI d)), (0, .ref (ad (30, 0, 0, 0)))]) hx hb dX7_tell_105 hl (k := 0) rfl (by decide) (by decide) rfl (fun ls hl => ?_)
    refine lv_goto (tgt := 84) hx hb dX7_tell_108 (by decide) ?_
    have hm : (sset (sset (thM I 0) (35, 0, 0, 0) (rf (24 * (10 * d + e) + 6 * f) ((24 * (10 * d + e) + 6 * f) + i) z0 (I (35, 0, 0, 0)))) (35, 0, 0, 0) (upd ((sset (thM I 0) (35, 0, 0, 0) (rf (24 * (10 * d + e) + 6 * f) ((24 * (10 * d + e) + 6 * f) + i) z0 (I (35, 0, 0, 0)))) (35, 0, 0, 0)) (24 * (10 * d + e) + 6 * f + i) (nI 0))) = (sset (thM I 0) (35, 0, 0, 0) (rf (24 * (10 * d + e) + 6 * f) ((24 * (10 * d + e) + 6 * f) + (i + 1)) z0 (I (35, 0, 0, 0)))) := by
      rw [sset_sset, sset_eq]
      rw [rf_s _ _ _ _ (rfl : nI 0 = z0 _)]
    exact ih84 (i + 1) (by omega) (by omega) H locs ls (h.eq (congrArg (lay tc ad gm dz) hm)) (lv_sub hl [0, 1, 2, 3, 4, 5, 6] rfl)

set_option maxHeartbeats 4000000 in
set_option maxRecDepth 100000 in
theorem m_X7_delete_1 {l : Launch} {D : va_G} {tc : TC} {dz : Nat} {ad : KN → Nat} {Ks : List KN} {gm : GM} (I : Mem) (hL : LV gm Ks) (n : Nat) (hn : I (30, 0, 0, 0) 1 = nI n) (hn10 : n ≤ 10) (x y : Int32) (h0 : knwB I n x y = false) : MI l yX7_delete cX7_delete 5 (Option.some ClassFile.FieldType.int) 3 D tc dz ad Ks (lay tc ad gm dz I) [.ref (ad (30, 0, 0, 0)), .int x, .int y] (nI 0) (lay tc ad gm dz (thM I 1)) := by
  intro sz
  refine x_ofW (by decide +kernel) (Nat.le_of_ble_eq_true rfl) (fun pp ee s mm bel meth cd ls X hr hin hz h hl => ?_)
  subst hz
  obtain ⟨hx, hb, hmaxL, hown, hts⟩ := id X.1
  have hl : lv_has ls 5 [(0, .ref (ad (30, 0, 0, 0))), (1, .int x), (2, .int y)] := hl
  refine lv_aload_n hx hb dX7_delete_0 rfl (lv_at hl 0 rfl) ?_
  refine lv_iload_n hx hb dX7_delete_1 rfl (lv_at hl 1 rfl) ?_
  refine lv_iload_n hx hb dX7_delete_2 rfl (lv_at hl 2 rfl) ?_
  refine x_doneI X h (x_runV X h (k := (30, 0, 0, 0)) (m_X7_isKnown I hL n hn hn10 x y _) F_X7_isKnown q874 q876 q6 (hL (30, 0, 0, 0) ⟨by decide, rfl, rfl, rfl⟩) rfl rfl rfl (by decide) (by decide) ⟨Nat.le_refl _, Nat.le_refl _⟩ hl.1 (Nat.le_of_ble_eq_true rfl) dX7_delete_3 rfl) (fun H locs h => ?_)
  refine lv_istore_n (lv' := [(3, .int (bI (knwB I n x y))), (0, .ref (ad (30, 0, 0, 0))), (1, .int x), (2, .int y)]) hx hb dX7_delete_6 rfl hl (by decide) rfl (fun ls hl => ?_)
  refine lv_aload_n hx hb dX7_delete_7 rfl (lv_at hl 1 rfl) ?_
  refine lv_iload_n hx hb dX7_delete_8 rfl (lv_at hl 0 rfl) ?_
  refine b_if_ne (tgt := 16) hx hb dX7_delete_9 (by decide) (fun c => by rw [h0] at c; cases c) (fun _ => ?_)
  refine lv_iconst (v := nI 1) hx hb dX7_delete_12 (by decide) ?_
  refine lv_goto (tgt := 42) hx hb dX7_delete_13 (by decide) ?_
  refine x_doneI X h (x_runV X h (k := (30, 0, 0, 0)) (m_X7_fails1 I hL _) F_X7_fails q863 q865 q5 (hL (30, 0, 0, 0) ⟨by decide, rfl, rfl, rfl⟩) rfl rfl rfl (by decide) (by decide) ⟨Nat.le_refl _, Nat.le_refl _⟩ hl.1 (Nat.le_of_ble_eq_true rfl) dX7_delete_42 rfl) (fun H locs h => ?_)
  refine b_if_eq (tgt := 50) hx hb dX7_delete_45 (by decide) (fun c => (Bool.noConfusion c)) (fun _ => ?_)
  refine lv_iconst (v := nI 0) hx hb dX7_delete_48 (by decide) ?_
  exact x_iret X h hr rfl rfl (fun _ _ => rfl) dX7_delete_49

set_option maxHeartbeats 4000000 in
set_option maxRecDepth 100000 in
theorem m_X7_delete_2 {l : Launch} {D : va_G} {tc : TC} {dz : Nat} {ad : KN → Nat} {Ks : List KN} {gm : GM} (I : Mem) (hL : LV gm Ks) (n : Nat) (hn : I (30, 0, 0, 0) 1 = nI n) (hn10 : n ≤ 10) (m : Nat) (hmm : I (30, 0, 0, 0) 2 = nI m) (hm5 : m ≤ 1000) (d e : Nat) (hd : d < 6) (hen : e < n) (hk : nz ((I (34, 0, 0, 0)) (10 * d + e)) = true) (h0 : (decide ((I (32, 0, 0, 0)) e = nI (d / 2)) && thr I d e m) = false) : MI l yX7_delete cX7_delete 5 (Option.some ClassFile.FieldType.int) 4 D tc dz ad Ks (lay tc ad gm dz I) [.ref (ad (30, 0, 0, 0)), .int (nI d), .int (nI e)] (nI 0) (lay tc ad gm dz (thM I 2)) := by
  intro sz
  refine x_ofW (by decide +kernel) (Nat.le_of_ble_eq_true rfl) (fun pp ee s mm bel meth cd ls X hr hin hz h hl => ?_)
  subst hz
  obtain ⟨hx, hb, hmaxL, hown, hts⟩ := id X.1
  have hl : lv_has ls 5 [(0, .ref (ad (30, 0, 0, 0))), (1, .int (nI d)), (2, .int (nI e))] := hl
  refine lv_aload_n hx hb dX7_delete_0 rfl (lv_at hl 0 rfl) ?_
  refine lv_iload_n hx hb dX7_delete_1 rfl (lv_at hl 1 rfl) ?_
  refine lv_iload_n hx hb dX7_delete_2 rfl (lv_at hl 2 rfl) ?_
  refine x_doneI X h (x_runV X h (k := (30, 0, 0, 0)) (m_X7_isKnown_in I hL n hn hn10 d e (by omega) (by omega) _) F_X7_isKnown q874 q876 q6 (hL (30, 0, 0, 0) ⟨by decide, rfl, rfl, rfl⟩) rfl rfl rfl (by decide) (by decide) ⟨Nat.le_refl _, Nat.le_refl _⟩ hl.1 (Nat.le_of_ble_eq_true rfl) dX7_delete_3 rfl) (fun H locs h => ?_)
  refine lv_istore_n (lv' := [(3, .int (bI (nz (I (34, 0, 0, 0) (10 * d + e))))), (0, .ref (ad (30, 0, 0, 0))), (1, .int (nI d)), (2, .int (nI e))]) hx hb dX7_delete_6 rfl hl (by decide) rfl (fun ls hl => ?_)
  refine lv_aload_n hx hb dX7_delete_7 rfl (lv_at hl 1 rfl) ?_
  refine lv_iload_n hx hb dX7_delete_8 rfl (lv_at hl 0 rfl) ?_
  refine b_if_ne (tgt := 16) hx hb dX7_delete_9 (by decide) (fun _ => ?_) (fun c => by rw [hk] at c; cases c)
  refine lv_aload_n hx hb dX7_delete_16 rfl (lv_at hl 1 rfl) ?_
  refine gf_Model_owner X h (hL (30, 0, 0, 0) ⟨by decide, rfl, rfl, rfl⟩) q799 dX7_delete_17 ?_
  refine lv_iload_n hx hb dX7_delete_20 rfl (lv_at hl 3 rfl) ?_
  refine y_ald X h (fun _ => rfl) (by decide) (hL (32, 0, 0, 0) ⟨by decide, rfl, rfl, rfl⟩) (by omega) (v := I (32, 0, 0, 0) e) rfl dX7_delete_21 ?_
  refine lv_iload_n hx hb dX7_delete_22 rfl (lv_at hl 2 rfl) ?_
  refine lv_iconst (v := nI 2) hx hb dX7_delete_23 (by decide) ?_
  refine n_idiv hx hb (by omega) (by omega) (by omega) dX7_delete_24 ?_
  refine lv_icmp_ne (tgt := 41) hx hb dX7_delete_25 (by decide) (fun c_25 => ?_) (fun c_25 => ?_)
  · skip
    refine lv_iconst (v := nI 2) hx hb dX7_delete_41 (by decide) ?_
    refine x_doneI X h (x_runV X h (k := (30, 0, 0, 0)) (m_X7_fails2 I hL _) F_X7_fails q863 q865 q5 (hL (30, 0, 0, 0) ⟨by decide, rfl, rfl, rfl⟩) rfl rfl rfl (by decide) (by decide) ⟨Nat.le_refl _, Nat.le_refl _⟩ hl.1 (Nat.le_of_ble_eq_true rfl) dX7_delete_42 rfl) (fun H locs h => ?_)
    refine b_if_eq (tgt := 50) hx hb dX7_delete_45 (by decide) (fun c => (Bool.noConfusion c)) (fun _ => ?_)
    refine lv_iconst (v := nI 0) hx hb dX7_delete_48 (by decide) ?_
    exact x_iret X h hr rfl rfl (fun _ _ => rfl) dX7_delete_49
  · skip
    refine lv_aload_n hx hb dX7_delete_28 rfl (lv_at hl 1 rfl) ?_
    refine lv_iload_n hx hb dX7_delete_29 rfl (lv_at hl 2 rfl) ?_
    refine lv_iload_n hx hb dX7_delete_30 rfl (lv_at hl 3 rfl) ?_
    refine x_doneI X h (x_runV X h (k := (30, 0, 0, 0)) (m_X7_isThere I hL d e (by omega) (by omega) m hmm hm5 _) F_X7_isThere q900 q902 q10 (hL (30, 0, 0, 0) ⟨by decide, rfl, rfl, rfl⟩) rfl rfl rfl (by decide) (by decide) ⟨Nat.le_refl _, Nat.le_refl _⟩ hl.1 (Nat.le_of_ble_eq_true rfl) dX7_delete_31 rfl) (fun H locs h => ?_)
    refine b_if_eq (tgt := 41) hx hb dX7_delete_34 (by decide) (fun c_34 => ?_) (fun c_34 => ?_)
    · skip
      refine lv_iconst (v := nI 2) hx hb dX7_delete_41 (by decide) ?_
      refine x_doneI X h (x_runV X h (k := (30, 0, 0, 0)) (m_X7_fails2 I hL _) F_X7_fails q863 q865 q5 (hL (30, 0, 0, 0) ⟨by decide, rfl, rfl, rfl⟩) rfl rfl rfl (by decide) (by decide) ⟨Nat.le_refl _, Nat.le_refl _⟩ hl.1 (Nat.le_of_ble_eq_true rfl) dX7_delete_42 rfl) (fun H locs h => ?_)
      refine b_if_eq (tgt := 50) hx hb dX7_delete_45 (by decide) (fun c => (Bool.noConfusion c)) (fun _ => ?_)
      refine lv_iconst (v := nI 0) hx hb dX7_delete_48 (by decide) ?_
      exact x_iret X h hr rfl rfl (fun _ _ => rfl) dX7_delete_49
    · skip
      exact absurd h0 (by rw [decide_eq_true c_25, c_34]; decide)

set_option maxHeartbeats 4000000 in
set_option maxRecDepth 100000 in
theorem m_X7_delete_0 {l : Launch} {D : va_G} {tc : TC} {dz : Nat} {ad : KN → Nat} {Ks : List KN} {gm : GM} (I : Mem) (hL : LV gm Ks) (n : Nat) (hn : I (30, 0, 0, 0) 1 = nI n) (hn10 : n ≤ 10) (m : Nat) (hmm : I (30, 0, 0, 0) 2 = nI m) (hm5 : m ≤ 1000) (d e : Nat) (hd : d < 6) (hen : e < n) (hk : nz ((I (34, 0, 0, 0)) (10 * d + e)) = true) (how : (I (32, 0, 0, 0)) e = nI (d / 2)) (hth : thr I d e m = true) : MI l yX7_delete cX7_delete 5 (Option.some ClassFile.FieldType.int) 4 D tc dz ad Ks (lay tc ad gm dz I) [.ref (ad (30, 0, 0, 0)), .int (nI d), .int (nI e)] (nI (cnA I d e 4)) (lay tc ad gm dz (mdlM I d e m)) := by
  intro sz
  refine x_ofW (by decide +kernel) (Nat.le_of_ble_eq_true rfl) (fun pp ee s mm bel meth cd ls X hr hin hz h hl => ?_)
  subst hz
  obtain ⟨hx, hb, hmaxL, hown, hts⟩ := id X.1
  have hl : lv_has ls 5 [(0, .ref (ad (30, 0, 0, 0))), (1, .int (nI d)), (2, .int (nI e))] := hl
  refine lv_aload_n hx hb dX7_delete_0 rfl (lv_at hl 0 rfl) ?_
  refine lv_iload_n hx hb dX7_delete_1 rfl (lv_at hl 1 rfl) ?_
  refine lv_iload_n hx hb dX7_delete_2 rfl (lv_at hl 2 rfl) ?_
  refine x_doneI X h (x_runV X h (k := (30, 0, 0, 0)) (m_X7_isKnown_in I hL n hn hn10 d e (by omega) (by omega) _) F_X7_isKnown q874 q876 q6 (hL (30, 0, 0, 0) ⟨by decide, rfl, rfl, rfl⟩) rfl rfl rfl (by decide) (by decide) ⟨Nat.le_refl _, Nat.le_refl _⟩ hl.1 (Nat.le_of_ble_eq_true rfl) dX7_delete_3 rfl) (fun H locs h => ?_)
  refine lv_istore_n (lv' := [(3, .int (bI (nz (I (34, 0, 0, 0) (10 * d + e))))), (0, .ref (ad (30, 0, 0, 0))), (1, .int (nI d)), (2, .int (nI e))]) hx hb dX7_delete_6 rfl hl (by decide) rfl (fun ls hl => ?_)
  refine lv_aload_n hx hb dX7_delete_7 rfl (lv_at hl 1 rfl) ?_
  refine lv_iload_n hx hb dX7_delete_8 rfl (lv_at hl 0 rfl) ?_
  refine b_if_ne (tgt := 16) hx hb dX7_delete_9 (by decide) (fun _ => ?_) (fun c => by rw [hk] at c; cases c)
  refine lv_aload_n hx hb dX7_delete_16 rfl (lv_at hl 1 rfl) ?_
  refine gf_Model_owner X h (hL (30, 0, 0, 0) ⟨by decide, rfl, rfl, rfl⟩) q799 dX7_delete_17 ?_
  refine lv_iload_n hx hb dX7_delete_20 rfl (lv_at hl 3 rfl) ?_
  refine y_ald X h (fun _ => rfl) (by decide) (hL (32, 0, 0, 0) ⟨by decide, rfl, rfl, rfl⟩) (by omega) (v := I (32, 0, 0, 0) e) rfl dX7_delete_21 ?_
  refine lv_iload_n hx hb dX7_delete_22 rfl (lv_at hl 2 rfl) ?_
  refine lv_iconst (v := nI 2) hx hb dX7_delete_23 (by decide) ?_
  refine n_idiv hx hb (by omega) (by omega) (by omega) dX7_delete_24 ?_
  refine lv_icmp_ne (tgt := 41) hx hb dX7_delete_25 (by decide) (fun c_25 => ?_) (fun c_25 => ?_)
  · skip
    exact absurd how c_25
  · skip
    refine lv_aload_n hx hb dX7_delete_28 rfl (lv_at hl 1 rfl) ?_
    refine lv_iload_n hx hb dX7_delete_29 rfl (lv_at hl 2 rfl) ?_
    refine lv_iload_n hx hb dX7_delete_30 rfl (lv_at hl 3 rfl) ?_
    refine x_doneI X h (x_runV X h (k := (30, 0, 0, 0)) (m_X7_isThere I hL d e (by omega) (by omega) m hmm hm5 _) F_X7_isThere q900 q902 q10 (hL (30, 0, 0, 0) ⟨by decide, rfl, rfl, rfl⟩) rfl rfl rfl (by decide) (by decide) ⟨Nat.le_refl _, Nat.le_refl _⟩ hl.1 (Nat.le_of_ble_eq_true rfl) dX7_delete_31 rfl) (fun H locs h => ?_)
    refine b_if_eq (tgt := 41) hx hb dX7_delete_34 (by decide) (fun c => by rw [hth] at c; cases c) (fun _ => ?_)
    refine lv_iconst (v := nI 0) hx hb dX7_delete_37 (by decide) ?_
    refine lv_goto (tgt := 42) hx hb dX7_delete_38 (by decide) ?_
    refine x_doneI X h (x_runV X h (k := (30, 0, 0, 0)) (m_X7_fails0 I hL _) F_X7_fails q863 q865 q5 (hL (30, 0, 0, 0) ⟨by decide, rfl, rfl, rfl⟩) rfl rfl rfl (by decide) (by decide) ⟨Nat.le_refl _, Nat.le_refl _⟩ hl.1 (Nat.le_of_ble_eq_true rfl) dX7_delete_42 rfl) (fun H locs h => ?_)
    refine b_if_eq (tgt := 50) hx hb dX7_delete_45 (by decide) (fun _ => ?_) (fun c => (Bool.noConfusion c))
    refine lv_aload_n hx hb dX7_delete_50 rfl (lv_at hl 1 rfl) ?_
    refine gf_Model_acts X h (hL (30, 0, 0, 0) ⟨by decide, rfl, rfl, rfl⟩) q797 dX7_delete_51 ?_
    refine lv_iload_n hx hb dX7_delete_54 rfl (lv_at hl 2 rfl) ?_
    refine lv_dup2_11 hx hb dX7_delete_55 rfl rfl ?_
    refine y_ald X h (fun _ => rfl) (by decide) (hL (31, 0, 0, 0) ⟨by decide, rfl, rfl, rfl⟩) (by omega) (v := (I (31, 0, 0, 0)) d) (by rw [th_see (by decide)]) dX7_delete_56 ?_
    refine lv_iconst (v := nI 1) hx hb dX7_delete_57 (by decide) ?_
    refine lv_iadd hx hb dX7_delete_58 ?_
    refine y_ast X h (fun _ => rfl) (by decide) (hL (31, 0, 0, 0) ⟨by decide, rfl, rfl, rfl⟩) (by omega) dX7_delete_59 (fun H locs h => ?_)
    have h := h.eq (congrArg (lay tc ad gm dz) (show (sset (thM I 0) (31, 0, 0, 0) (upd ((thM I 0) (31, 0, 0, 0)) d (((I (31, 0, 0, 0)) d) + (nI 1)))) = (sset (thM I 0) (31, 0, 0, 0) (upd (I (31, 0, 0, 0)) d ((I (31, 0, 0, 0)) d + nI 1))) from (by rw [th_see (k := (31, 0, 0, 0)) (by decide)])))
    refine lv_aload_n hx hb dX7_delete_60 rfl (lv_at hl 1 rfl) ?_
    refine gf_Model_markOf X h (hL (30, 0, 0, 0) ⟨by decide, rfl, rfl, rfl⟩) q808 dX7_delete_61 ?_
    refine lv_aload_n hx hb dX7_delete_64 rfl (lv_at hl 1 rfl) ?_
    refine gf_Model_marks X h (hL (30, 0, 0, 0) ⟨by decide, rfl, rfl, rfl⟩) q807 (v := nI m) (by rw [sset_ne _ _ (nek (by decide) : ((30, 0, 0, 0) : KN) ≠ (31, 0, 0, 0))]; exact (th_30 (by decide)).trans hmm) dX7_delete_65 ?_
    refine lv_iload_n hx hb dX7_delete_68 rfl (lv_at hl 3 rfl) ?_
    refine y_ast X h (fun _ => rfl) (by decide) (hL (40, 0, 0, 0) ⟨by decide, rfl, rfl, rfl⟩) (by omega) dX7_delete_69 (fun H locs h => ?_)
    have h := h.eq (congrArg (lay tc ad gm dz) (show (sset (sset (thM I 0) (31, 0, 0, 0) (upd (I (31, 0, 0, 0)) d ((I (31, 0, 0, 0)) d + nI 1))) (40, 0, 0, 0) (upd ((sset (thM I 0) (31, 0, 0, 0) (upd (I (31, 0, 0, 0)) d ((I (31, 0, 0, 0)) d + nI 1))) (40, 0, 0, 0)) m (nI e))) = (sset (sset (thM I 0) (31, 0, 0, 0) (upd (I (31, 0, 0, 0)) d ((I (31, 0, 0, 0)) d + nI 1))) (40, 0, 0, 0) (upd (I (40, 0, 0, 0)) m (nI e))) from (by rw [sset_ne _ _ (nek (by decide) : ((40, 0, 0, 0) : KN) ≠ (31, 0, 0, 0)), th_see (k := (40, 0, 0, 0)) (by decide)])))
    refine lv_iconst (v := nI 0) hx hb dX7_delete_70 (by decide) ?_
    refine lv_istore (lv' := [(4, .int (nI 0)), (3, .int (bI (nz (I (34, 0, 0, 0) (10 * d + e))))), (0, .ref (ad (30, 0, 0, 0))), (1, .int (nI d)), (2, .int (nI e))]) hx hb dX7_delete_71 hl (by decide) rfl (fun ls hl => ?_)
    refine y_loop (D := D) (A := wA ad Ks s.heap.size) (ad := ad) (Ks := Ks) (nL := 5) (fun i : Nat => lay tc ad gm dz (sset (sset (sset (thM I 0) (31, 0, 0, 0) (upd (I (31, 0, 0, 0)) d ((I (31, 0, 0, 0)) d + nI 1))) (40, 0, 0, 0) (upd (I (40, 0, 0, 0)) m (nI e))) (41, 0, 0, 0) (mdC I d e m i))) (fun i => [(4, .int (nI i)), (2, .int (nI e)), (1, .int (nI d)), (0, .ref (ad (30, 0, 0, 0)))]) (fun _ => []) (fun i : Nat => i ≤ 24) (fun i => 24 - i) (fun i hi73 ih73 H locs ls h hl => ?_) 0 (Nat.zero_le _) (h.eq (congrArg (lay tc ad gm dz) (by unfold mdC; rw [Nat.add_zero, rf_0]; rw [show (I (41, 0, 0, 0)) = (sset (sset (thM I 0) (31, 0, 0, 0) (upd (I (31, 0, 0, 0)) d ((I (31, 0, 0, 0)) d + nI 1))) (40, 0, 0, 0) (upd (I (40, 0, 0, 0)) m (nI e))) (41, 0, 0, 0) from by rw [sset_ne _ _ (nek (by decide) : ((41, 0, 0, 0) : KN) ≠ (40, 0, 0, 0)), sset_ne _ _ (nek (by decide) : ((41, 0, 0, 0) : KN) ≠ (31, 0, 0, 0)), th_see (by decide)], sset_id]))) (lv_sub hl [0, 4, 3, 2] rfl) rfl
    have h : Sx D (wA ad Ks s.heap.size) ad Ks (lay tc ad gm dz (sset (sset (sset (thM I 0) (31, 0, 0, 0) (upd (I (31, 0, 0, 0)) d ((I (31, 0, 0, 0)) d + nI 1))) (40, 0, 0, 0) (upd (I (40, 0, 0, 0)) m (nI e))) (41, 0, 0, 0) (mdC I d e m i))) s H locs := h
    have hl : lv_has ls 5 [(4, .int (nI i)), (2, .int (nI e)), (1, .int (nI d)), (0, .ref (ad (30, 0, 0, 0)))] := hl
    refine lv_iload hx hb dX7_delete_73 (lv_at hl 0 rfl) ?_
    refine lv_bipush (v := nI 24) hx hb dX7_delete_75 (by decide) ?_
    refine n_icmp_ge (tgt := 117) hx hb (by omega) (by omega) dX7_delete_77 (by decide) (fun c_77 => ?_) (fun c_77 => ?_)
    · skip
      obtain rfl : i = 24 := by omega
      refine lv_aload_n hx hb dX7_delete_117 rfl (lv_at hl 3 rfl) ?_
      refine gf_Model_since X h (hL (30, 0, 0, 0) ⟨by decide, rfl, rfl, rfl⟩) q810 dX7_delete_118 ?_
      refine lv_bipush (v := nI 6) hx hb dX7_delete_121 (by decide) ?_
      refine lv_aload_n hx hb dX7_delete_123 rfl (lv_at hl 3 rfl) ?_
      refine gf_Model_marks X h (hL (30, 0, 0, 0) ⟨by decide, rfl, rfl, rfl⟩) q807 (v := nI m) (by rw [sset_ne _ _ (nek (by decide) : ((30, 0, 0, 0) : KN) ≠ (41, 0, 0, 0)), sset_ne _ _ (nek (by decide) : ((30, 0, 0, 0) : KN) ≠ (40, 0, 0, 0)), sset_ne _ _ (nek (by decide) : ((30, 0, 0, 0) : KN) ≠ (31, 0, 0, 0))]; exact (th_30 (by decide)).trans hmm) dX7_delete_124 ?_
      refine n_imul hx hb dX7_delete_127 ?_
      refine lv_iload_n hx hb dX7_delete_128 rfl (lv_at hl 2 rfl) ?_
      refine n_iadd hx hb dX7_delete_129 ?_
      refine lv_aload_n hx hb dX7_delete_130 rfl (lv_at hl 3 rfl) ?_
      refine gf_Model_month X h (hL (30, 0, 0, 0) ⟨by decide, rfl, rfl, rfl⟩) q796 (v := I (30, 0, 0, 0) 0) (by rw [sset_ne _ _ (nek (by decide) : ((30, 0, 0, 0) : KN) ≠ (41, 0, 0, 0)), sset_ne _ _ (nek (by decide) : ((30, 0, 0, 0) : KN) ≠ (40, 0, 0, 0)), sset_ne _ _ (nek (by decide) : ((30, 0, 0, 0) : KN) ≠ (31, 0, 0, 0))]; exact th_30 (by decide)) dX7_delete_131 ?_
      refine lv_iconst (v := nI 1) hx hb dX7_delete_134 (by decide) ?_
      refine lv_iadd hx hb dX7_delete_135 ?_
      refine y_ast X h (fun _ => rfl) (by decide) (hL (42, 0, 0, 0) ⟨by decide, rfl, rfl, rfl⟩) (by omega) dX7_delete_136 (fun H locs h => ?_)
      have h := h.eq (congrArg (lay tc ad gm dz) (show (sset (sset (sset (sset (thM I 0) (31, 0, 0, 0) (upd (I (31, 0, 0, 0)) d ((I (31, 0, 0, 0)) d + nI 1))) (40, 0, 0, 0) (upd (I (40, 0, 0, 0)) m (nI e))) (41, 0, 0, 0) (mdC I d e m 24)) (42, 0, 0, 0) (upd ((sset (sset (sset (thM I 0) (31, 0, 0, 0) (upd (I (31, 0, 0, 0)) d ((I (31, 0, 0, 0)) d + nI 1))) (40, 0, 0, 0) (upd (I (40, 0, 0, 0)) m (nI e))) (41, 0, 0, 0) (mdC I d e m 24)) (42, 0, 0, 0)) ((6 * m) + d) ((I (30, 0, 0, 0) 0) + (nI 1)))) = (sset (sset (sset (sset (thM I 0) (31, 0, 0, 0) (upd (I (31, 0, 0, 0)) d ((I (31, 0, 0, 0)) d + nI 1))) (40, 0, 0, 0) (upd (I (40, 0, 0, 0)) m (nI e))) (41, 0, 0, 0) (mdC I d e m 24)) (42, 0, 0, 0) (upd (I (42, 0, 0, 0)) (6 * m + d) (I (30, 0, 0, 0) 0 + nI 1))) from (by rw [sset_ne _ _ (nek (by decide) : ((42, 0, 0, 0) : KN) ≠ (41, 0, 0, 0)), sset_ne _ _ (nek (by decide) : ((42, 0, 0, 0) : KN) ≠ (40, 0, 0, 0)), sset_ne _ _ (nek (by decide) : ((42, 0, 0, 0) : KN) ≠ (31, 0, 0, 0)), th_see (k := (42, 0, 0, 0)) (by decide)])))
      refine lv_aload_n hx hb dX7_delete_137 rfl (lv_at hl 3 rfl) ?_
      refine lv_dup hx hb dX7_delete_138 rfl ?_
      refine gf_Model_marks X h (hL (30, 0, 0, 0) ⟨by decide, rfl, rfl, rfl⟩) q807 (v := nI m) (by rw [sset_ne _ _ (nek (by decide) : ((30, 0, 0, 0) : KN) ≠ (42, 0, 0, 0)), sset_ne _ _ (nek (by decide) : ((30, 0, 0, 0) : KN) ≠ (41, 0, 0, 0)), sset_ne _ _ (nek (by decide) : ((30, 0, 0, 0) : KN) ≠ (40, 0, 0, 0)), sset_ne _ _ (nek (by decide) : ((30, 0, 0, 0) : KN) ≠ (31, 0, 0, 0))]; exact (th_30 (by decide)).trans hmm) dX7_delete_139 ?_
      refine lv_iconst (v := nI 1) hx hb dX7_delete_142 (by decide) ?_
      refine n_iadd hx hb dX7_delete_143 ?_
      refine pf_Model_marks X h (hL (30, 0, 0, 0) ⟨by decide, rfl, rfl, rfl⟩) q807 dX7_delete_144 (fun H locs h => ?_)
      have h := h.eq (congrArg (lay tc ad gm dz) (show (sset (sset (sset (sset (sset (thM I 0) (31, 0, 0, 0) (upd (I (31, 0, 0, 0)) d ((I (31, 0, 0, 0)) d + nI 1))) (40, 0, 0, 0) (upd (I (40, 0, 0, 0)) m (nI e))) (41, 0, 0, 0) (mdC I d e m 24)) (42, 0, 0, 0) (upd (I (42, 0, 0, 0)) (6 * m + d) (I (30, 0, 0, 0) 0 + nI 1))) (30, 0, 0, 0) (upd ((sset (sset (sset (sset (thM I 0) (31, 0, 0, 0) (upd (I (31, 0, 0, 0)) d ((I (31, 0, 0, 0)) d + nI 1))) (40, 0, 0, 0) (upd (I (40, 0, 0, 0)) m (nI e))) (41, 0, 0, 0) (mdC I d e m 24)) (42, 0, 0, 0) (upd (I (42, 0, 0, 0)) (6 * m + d) (I (30, 0, 0, 0) 0 + nI 1))) (30, 0, 0, 0)) 2 (nI (m + 1)))) = (mdlM I d e m) from (by rw [sset_ne _ _ (nek (by decide) : ((30, 0, 0, 0) : KN) ≠ (42, 0, 0, 0)), sset_ne _ _ (nek (by decide) : ((30, 0, 0, 0) : KN) ≠ (41, 0, 0, 0)), sset_ne _ _ (nek (by decide) : ((30, 0, 0, 0) : KN) ≠ (40, 0, 0, 0)), sset_ne _ _ (nek (by decide) : ((30, 0, 0, 0) : KN) ≠ (31, 0, 0, 0))]; rfl)))
      refine lv_aload_n hx hb dX7_delete_147 rfl (lv_at hl 3 rfl) ?_
      refine lv_iload_n hx hb dX7_delete_148 rfl (lv_at hl 2 rfl) ?_
      refine lv_iload_n hx hb dX7_delete_149 rfl (lv_at hl 1 rfl) ?_
      refine x_doneI X h (x_runV X h (k := (30, 0, 0, 0)) (m_X7_all (mdlM I d e m) hL d e (by omega) (by omega) _) F_X7_all q904 q906 q11 (hL (30, 0, 0, 0) ⟨by decide, rfl, rfl, rfl⟩) rfl rfl rfl (by decide) (by decide) ⟨Nat.le_refl _, Nat.le_refl _⟩ hl.1 (Nat.le_of_ble_eq_true rfl) dX7_delete_150 rfl) (fun H locs h => ?_)
      refine x_iret X h hr rfl ?_ (fun _ _ => rfl) dX7_delete_153
      · exact congrArg nI (cnA_congr (by unfold mdlM; rw [sset_ne _ _ (nek (by decide) : ((35, 0, 0, 0) : KN) ≠ (30, 0, 0, 0)), sset_ne _ _ (nek (by decide) : ((35, 0, 0, 0) : KN) ≠ (42, 0, 0, 0)), sset_ne _ _ (nek (by decide) : ((35, 0, 0, 0) : KN) ≠ (41, 0, 0, 0)), sset_ne _ _ (nek (by decide) : ((35, 0, 0, 0) : KN) ≠ (40, 0, 0, 0)), sset_ne _ _ (nek (by decide) : ((35, 0, 0, 0) : KN) ≠ (31, 0, 0, 0)), th_see (by decide)]) d e 4)
    · skip
      refine lv_aload_n hx hb dX7_delete_80 rfl (lv_at hl 3 rfl) ?_
      refine gf_Model_copy X h (hL (30, 0, 0, 0) ⟨by decide, rfl, rfl, rfl⟩) q809 dX7_delete_81 ?_
      refine lv_bipush (v := nI 24) hx hb dX7_delete_84 (by decide) ?_
      refine lv_aload_n hx hb dX7_delete_86 rfl (lv_at hl 3 rfl) ?_
      refine gf_Model_marks X h (hL (30, 0, 0, 0) ⟨by decide, rfl, rfl, rfl⟩) q807 (v := nI m) (by rw [sset_ne _ _ (nek (by decide) : ((30, 0, 0, 0) : KN) ≠ (41, 0, 0, 0)), sset_ne _ _ (nek (by decide) : ((30, 0, 0, 0) : KN) ≠ (40, 0, 0, 0)), sset_ne _ _ (nek (by decide) : ((30, 0, 0, 0) : KN) ≠ (31, 0, 0, 0))]; exact (th_30 (by decide)).trans hmm) dX7_delete_87 ?_
      refine n_imul hx hb dX7_delete_90 ?_
      refine lv_iload hx hb dX7_delete_91 (lv_at hl 0 rfl) ?_
      refine n_iadd hx hb dX7_delete_93 ?_
      refine lv_aload_n hx hb dX7_delete_94 rfl (lv_at hl 3 rfl) ?_
      refine gf_Model_seen X h (hL (30, 0, 0, 0) ⟨by decide, rfl, rfl, rfl⟩) q804 dX7_delete_95 ?_
      refine lv_bipush (v := nI 24) hx hb dX7_delete_98 (by decide) ?_
      refine lv_iload_n hx hb dX7_delete_100 rfl (lv_at hl 2 rfl) ?_
      refine lv_iload_n hx hb dX7_delete_101 rfl (lv_at hl 1 rfl) ?_
      refine x_doneI X h (x_runS X h (m_X7_pair (sset (sset (sset (thM I 0) (31, 0, 0, 0) (upd (I (31, 0, 0, 0)) d ((I (31, 0, 0, 0)) d + nI 1))) (40, 0, 0, 0) (upd (I (40, 0, 0, 0)) m (nI e))) (41, 0, 0, 0) (mdC I d e m i)) d e _) F_X7_pair q867 q868 rfl (by decide) (by decide) ⟨Nat.le_refl _, Nat.le_refl _⟩ hl.1 (Nat.le_of_ble_eq_true rfl) dX7_delete_102 rfl) (fun H locs h => ?_)
      refine n_imul hx hb dX7_delete_105 ?_
      refine lv_iload hx hb dX7_delete_106 (lv_at hl 0 rfl) ?_
      refine n_iadd hx hb dX7_delete_108 ?_
      refine y_ald X h (fun _ => rfl) (by decide) (hL (37, 0, 0, 0) ⟨by decide, rfl, rfl, rfl⟩) (by omega) (v := (I (37, 0, 0, 0)) (24 * (10 * d + e) + i)) (by rw [sset_ne _ _ (nek (by decide) : ((37, 0, 0, 0) : KN) ≠ (41, 0, 0, 0)), sset_ne _ _ (nek (by decide) : ((37, 0, 0, 0) : KN) ≠ (40, 0, 0, 0)), sset_ne _ _ (nek (by decide) : ((37, 0, 0, 0) : KN) ≠ (31, 0, 0, 0)), th_see (by decide)]) dX7_delete_109 ?_
      refine y_ast X h (fun _ => rfl) (by decide) (hL (41, 0, 0, 0) ⟨by decide, rfl, rfl, rfl⟩) (by omega) dX7_delete_110 (fun H locs h => ?_)
      refine n_iinc (j := i) (n := 1) (lv' := [(4, .int (nI (i + 1))), (2, .int (nI e)), (1, .int (nI d)), (0, .ref (ad (30, 0, 0, 0)))]) hx hb dX7_delete_111 hl (k := 0) rfl (by decide) (by decide) rfl (fun ls hl => ?_)
      refine lv_goto (tgt := 73) hx hb dX7_delete_114 (by decide) ?_
      have hm : (sset (sset (sset (sset (thM I 0) (31, 0, 0, 0) (upd (I (31, 0, 0, 0)) d ((I (31, 0, 0, 0)) d + nI 1))) (40, 0, 0, 0) (upd (I (40, 0, 0, 0)) m (nI e))) (41, 0, 0, 0) (mdC I d e m i)) (41, 0, 0, 0) (upd ((sset (sset (sset (thM I 0) (31, 0, 0, 0) (upd (I (31, 0, 0, 0)) d ((I (31, 0, 0, 0)) d + nI 1))) (40, 0, 0, 0) (upd (I (40, 0, 0, 0)) m (nI e))) (41, 0, 0, 0) (mdC I d e m i)) (41, 0, 0, 0)) ((24 * m) + i) ((I (37, 0, 0, 0)) (24 * (10 * d + e) + i)))) = (sset (sset (sset (thM I 0) (31, 0, 0, 0) (upd (I (31, 0, 0, 0)) d ((I (31, 0, 0, 0)) d + nI 1))) (40, 0, 0, 0) (upd (I (40, 0, 0, 0)) m (nI e))) (41, 0, 0, 0) (mdC I d e m (i + 1))) := by
        rw [sset_sset, sset_eq]
        unfold mdC
        rw [rf_s _ _ _ _ (by simp only [Nat.add_sub_cancel_left])]
      exact ih73 (i + 1) (by omega) (by omega) H locs ls (h.eq (congrArg (lay tc ad gm dz) hm)) (lv_sub hl [0, 1, 2, 3] rfl)

set_option maxHeartbeats 4000000 in
set_option maxRecDepth 100000 in
theorem m_X7_share_1 {l : Launch} {D : va_G} {tc : TC} {dz : Nat} {ad : KN → Nat} {Ks : List KN} {gm : GM} (I : Mem) (hL : LV gm Ks) (n : Nat) (hn : I (30, 0, 0, 0) 1 = nI n) (hn10 : n ≤ 10) (x y z w : Int32) (h0 : (knwB I n x y && isPer z) = false) : MI l yX7_share cX7_share 10 (Option.some ClassFile.FieldType.int) 3 D tc dz ad Ks (lay tc ad gm dz I) [.ref (ad (30, 0, 0, 0)), .int x, .int y, .int z, .int w] (nI 0) (lay tc ad gm dz (thM I 1)) := by
  intro sz
  refine x_ofW (by decide +kernel) (Nat.le_of_ble_eq_true rfl) (fun pp ee s mm bel meth cd ls X hr hin hz h hl => ?_)
  subst hz
  obtain ⟨hx, hb, hmaxL, hown, hts⟩ := id X.1
  have hl : lv_has ls 10 [(0, .ref (ad (30, 0, 0, 0))), (1, .int x), (2, .int y), (3, .int z), (4, .int w)] := hl
  refine lv_aload_n hx hb dX7_share_0 rfl (lv_at hl 0 rfl) ?_
  refine lv_iload_n hx hb dX7_share_1 rfl (lv_at hl 1 rfl) ?_
  refine lv_iload_n hx hb dX7_share_2 rfl (lv_at hl 2 rfl) ?_
  refine x_doneI X h (x_runV X h (k := (30, 0, 0, 0)) (m_X7_isKnown I hL n hn hn10 x y _) F_X7_isKnown q874 q876 q6 (hL (30, 0, 0, 0) ⟨by decide, rfl, rfl, rfl⟩) rfl rfl rfl (by decide) (by decide) ⟨Nat.le_refl _, Nat.le_refl _⟩ hl.1 (Nat.le_of_ble_eq_true rfl) dX7_share_3 rfl) (fun H locs h => ?_)
  refine b_if_eq (tgt := 22) hx hb dX7_share_6 (by decide) (fun c_6 => ?_) (fun c_6 => ?_)
  · skip
    refine lv_iconst (v := nI 0) hx hb dX7_share_22 (by decide) ?_
    refine lv_istore (lv' := [(5, .int (nI 0)), (0, .ref (ad (30, 0, 0, 0))), (1, .int x), (2, .int y), (3, .int z), (4, .int w)]) hx hb dX7_share_23 hl (by decide) rfl (fun ls hl => ?_)
    refine lv_iload hx hb dX7_share_25 (lv_at hl 5 rfl) ?_
    refine lv_iconst (v := nI 0) hx hb dX7_share_27 (by decide) ?_
    refine lv_bipush (v := nI 15) hx hb dX7_share_28 (by decide) ?_
    refine x_doneI X h (x_runS X h (m_X7_isIn I w (nI 0) (nI 15) _) F_X7_isIn q860 q861 rfl (by decide) (by decide) ⟨Nat.le_refl _, Nat.le_refl _⟩ hl.1 (Nat.le_of_ble_eq_true rfl) dX7_share_30 rfl) (fun H locs h => ?_)
    refine lv_istore (lv' := [(6, .int (bI (inR w (nI 0) (nI 15)))), (5, .int (nI 0)), (0, .ref (ad (30, 0, 0, 0))), (1, .int x), (2, .int y), (3, .int z), (4, .int w)]) hx hb dX7_share_33 hl (by decide) rfl (fun ls hl => ?_)
    refine lv_aload_n hx hb dX7_share_35 rfl (lv_at hl 2 rfl) ?_
    refine lv_iload hx hb dX7_share_36 (lv_at hl 1 rfl) ?_
    refine lv_if_ne (tgt := 45) hx hb dX7_share_38 (by decide) (fun c => absurd c (by decide)) (fun _ => ?_)
    refine lv_iconst (v := nI 1) hx hb dX7_share_41 (by decide) ?_
    refine lv_goto (tgt := 81) hx hb dX7_share_42 (by decide) ?_
    refine x_doneI X h (x_runV X h (k := (30, 0, 0, 0)) (m_X7_fails1 I hL _) F_X7_fails q863 q865 q5 (hL (30, 0, 0, 0) ⟨by decide, rfl, rfl, rfl⟩) rfl rfl rfl (by decide) (by decide) ⟨Nat.le_refl _, Nat.le_refl _⟩ hl.1 (Nat.le_of_ble_eq_true rfl) dX7_share_81 rfl) (fun H locs h => ?_)
    refine b_if_eq (tgt := 89) hx hb dX7_share_84 (by decide) (fun c => (Bool.noConfusion c)) (fun _ => ?_)
    refine lv_iconst (v := nI 0) hx hb dX7_share_87 (by decide) ?_
    exact x_iret X h hr rfl rfl (fun _ _ => rfl) dX7_share_88
  · skip
    refine lv_iload_n hx hb dX7_share_9 rfl (lv_at hl 3 rfl) ?_
    refine lv_iconst (v := nI 0) hx hb dX7_share_10 (by decide) ?_
    refine lv_iconst (v := nI 2) hx hb dX7_share_11 (by decide) ?_
    refine x_doneI X h (x_runS X h (m_X7_isIn I z (nI 0) (nI 2) _) F_X7_isIn q860 q861 rfl (by decide) (by decide) ⟨Nat.le_refl _, Nat.le_refl _⟩ hl.1 (Nat.le_of_ble_eq_true rfl) dX7_share_12 rfl) (fun H locs h => ?_)
    refine b_if_eq (tgt := 22) hx hb dX7_share_15 (by decide) (fun c_15 => ?_) (fun c_15 => ?_)
    · skip
      refine lv_iconst (v := nI 0) hx hb dX7_share_22 (by decide) ?_
      refine lv_istore (lv' := [(5, .int (nI 0)), (0, .ref (ad (30, 0, 0, 0))), (1, .int x), (2, .int y), (3, .int z), (4, .int w)]) hx hb dX7_share_23 hl (by decide) rfl (fun ls hl => ?_)
      refine lv_iload hx hb dX7_share_25 (lv_at hl 5 rfl) ?_
      refine lv_iconst (v := nI 0) hx hb dX7_share_27 (by decide) ?_
      refine lv_bipush (v := nI 15) hx hb dX7_share_28 (by decide) ?_
      refine x_doneI X h (x_runS X h (m_X7_isIn I w (nI 0) (nI 15) _) F_X7_isIn q860 q861 rfl (by decide) (by decide) ⟨Nat.le_refl _, Nat.le_refl _⟩ hl.1 (Nat.le_of_ble_eq_true rfl) dX7_share_30 rfl) (fun H locs h => ?_)
      refine lv_istore (lv' := [(6, .int (bI (inR w (nI 0) (nI 15)))), (5, .int (nI 0)), (0, .ref (ad (30, 0, 0, 0))), (1, .int x), (2, .int y), (3, .int z), (4, .int w)]) hx hb dX7_share_33 hl (by decide) rfl (fun ls hl => ?_)
      refine lv_aload_n hx hb dX7_share_35 rfl (lv_at hl 2 rfl) ?_
      refine lv_iload hx hb dX7_share_36 (lv_at hl 1 rfl) ?_
      refine lv_if_ne (tgt := 45) hx hb dX7_share_38 (by decide) (fun c => absurd c (by decide)) (fun _ => ?_)
      refine lv_iconst (v := nI 1) hx hb dX7_share_41 (by decide) ?_
      refine lv_goto (tgt := 81) hx hb dX7_share_42 (by decide) ?_
      refine x_doneI X h (x_runV X h (k := (30, 0, 0, 0)) (m_X7_fails1 I hL _) F_X7_fails q863 q865 q5 (hL (30, 0, 0, 0) ⟨by decide, rfl, rfl, rfl⟩) rfl rfl rfl (by decide) (by decide) ⟨Nat.le_refl _, Nat.le_refl _⟩ hl.1 (Nat.le_of_ble_eq_true rfl) dX7_share_81 rfl) (fun H locs h => ?_)
      refine b_if_eq (tgt := 89) hx hb dX7_share_84 (by decide) (fun c => (Bool.noConfusion c)) (fun _ => ?_)
      refine lv_iconst (v := nI 0) hx hb dX7_share_87 (by decide) ?_
      exact x_iret X h hr rfl rfl (fun _ _ => rfl) dX7_share_88
    · skip
      exact absurd h0 (by rw [← inR_per, c_6, c_15]; decide)

set_option maxHeartbeats 4000000 in
set_option maxRecDepth 100000 in
theorem m_X7_share_2 {l : Launch} {D : va_G} {tc : TC} {dz : Nat} {ad : KN → Nat} {Ks : List KN} {gm : GM} (I : Mem) (hL : LV gm Ks) (n : Nat) (hn : I (30, 0, 0, 0) 1 = nI n) (hn10 : n ≤ 10) (d e q : Nat) (hd : d < 6) (hen : e < n) (hq : q < 3) (hk : nz ((I (34, 0, 0, 0)) (10 * d + e)) = true) (w : Int32) (hw : inR w (nI 0) (nI 15) = false) : MI l yX7_share cX7_share 10 (Option.some ClassFile.FieldType.int) 3 D tc dz ad Ks (lay tc ad gm dz I) [.ref (ad (30, 0, 0, 0)), .int (nI d), .int (nI e), .int (nI q), .int w] (nI 0) (lay tc ad gm dz (thM I 2)) := by
  intro sz
  have hper : inR (nI q) (nI 0) (nI 2) = true := by rw [inR_per, isPer_nI hq]
  refine x_ofW (by decide +kernel) (Nat.le_of_ble_eq_true rfl) (fun pp ee s mm bel meth cd ls X hr hin hz h hl => ?_)
  subst hz
  obtain ⟨hx, hb, hmaxL, hown, hts⟩ := id X.1
  have hl : lv_has ls 10 [(0, .ref (ad (30, 0, 0, 0))), (1, .int (nI d)), (2, .int (nI e)), (3, .int (nI q)), (4, .int w)] := hl
  refine lv_aload_n hx hb dX7_share_0 rfl (lv_at hl 0 rfl) ?_
  refine lv_iload_n hx hb dX7_share_1 rfl (lv_at hl 1 rfl) ?_
  refine lv_iload_n hx hb dX7_share_2 rfl (lv_at hl 2 rfl) ?_
  refine x_doneI X h (x_runV X h (k := (30, 0, 0, 0)) (m_X7_isKnown_in I hL n hn hn10 d e (by omega) (by omega) _) F_X7_isKnown q874 q876 q6 (hL (30, 0, 0, 0) ⟨by decide, rfl, rfl, rfl⟩) rfl rfl rfl (by decide) (by decide) ⟨Nat.le_refl _, Nat.le_refl _⟩ hl.1 (Nat.le_of_ble_eq_true rfl) dX7_share_3 rfl) (fun H locs h => ?_)
  refine b_if_eq (tgt := 22) hx hb dX7_share_6 (by decide) (fun c => by rw [hk] at c; cases c) (fun _ => ?_)
  refine lv_iload_n hx hb dX7_share_9 rfl (lv_at hl 3 rfl) ?_
  refine lv_iconst (v := nI 0) hx hb dX7_share_10 (by decide) ?_
  refine lv_iconst (v := nI 2) hx hb dX7_share_11 (by decide) ?_
  refine x_doneI X h (x_runS X h (m_X7_isIn I (nI q) (nI 0) (nI 2) _) F_X7_isIn q860 q861 rfl (by decide) (by decide) ⟨Nat.le_refl _, Nat.le_refl _⟩ hl.1 (Nat.le_of_ble_eq_true rfl) dX7_share_12 rfl) (fun H locs h => ?_)
  refine b_if_eq (tgt := 22) hx hb dX7_share_15 (by decide) (fun c => by rw [hper] at c; cases c) (fun _ => ?_)
  refine lv_iconst (v := nI 1) hx hb dX7_share_18 (by decide) ?_
  refine lv_goto (tgt := 23) hx hb dX7_share_19 (by decide) ?_
  refine lv_istore (lv' := [(5, .int (nI 1)), (0, .ref (ad (30, 0, 0, 0))), (1, .int (nI d)), (2, .int (nI e)), (3, .int (nI q)), (4, .int w)]) hx hb dX7_share_23 hl (by decide) rfl (fun ls hl => ?_)
  refine lv_iload hx hb dX7_share_25 (lv_at hl 5 rfl) ?_
  refine lv_iconst (v := nI 0) hx hb dX7_share_27 (by decide) ?_
  refine lv_bipush (v := nI 15) hx hb dX7_share_28 (by decide) ?_
  refine x_doneI X h (x_runS X h (m_X7_isIn I w (nI 0) (nI 15) _) F_X7_isIn q860 q861 rfl (by decide) (by decide) ⟨Nat.le_refl _, Nat.le_refl _⟩ hl.1 (Nat.le_of_ble_eq_true rfl) dX7_share_30 rfl) (fun H locs h => ?_)
  refine lv_istore (lv' := [(6, .int (bI (inR w (nI 0) (nI 15)))), (5, .int (nI 1)), (0, .ref (ad (30, 0, 0, 0))), (1, .int (nI d)), (2, .int (nI e)), (3, .int (nI q)), (4, .int w)]) hx hb dX7_share_33 hl (by decide) rfl (fun ls hl => ?_)
  refine lv_aload_n hx hb dX7_share_35 rfl (lv_at hl 2 rfl) ?_
  refine lv_iload hx hb dX7_share_36 (lv_at hl 1 rfl) ?_
  refine lv_if_ne (tgt := 45) hx hb dX7_share_38 (by decide) (fun _ => ?_) (fun c => absurd c (by decide))
  refine lv_iload hx hb dX7_share_45 (lv_at hl 0 rfl) ?_
  refine b_if_ne (tgt := 54) hx hb dX7_share_47 (by decide) (fun c => by rw [hw] at c; cases c) (fun _ => ?_)
  refine lv_iconst (v := nI 2) hx hb dX7_share_50 (by decide) ?_
  refine lv_goto (tgt := 81) hx hb dX7_share_51 (by decide) ?_
  refine x_doneI X h (x_runV X h (k := (30, 0, 0, 0)) (m_X7_fails2 I hL _) F_X7_fails q863 q865 q5 (hL (30, 0, 0, 0) ⟨by decide, rfl, rfl, rfl⟩) rfl rfl rfl (by decide) (by decide) ⟨Nat.le_refl _, Nat.le_refl _⟩ hl.1 (Nat.le_of_ble_eq_true rfl) dX7_share_81 rfl) (fun H locs h => ?_)
  refine b_if_eq (tgt := 89) hx hb dX7_share_84 (by decide) (fun c => (Bool.noConfusion c)) (fun _ => ?_)
  refine lv_iconst (v := nI 0) hx hb dX7_share_87 (by decide) ?_
  exact x_iret X h hr rfl rfl (fun _ _ => rfl) dX7_share_88

set_option maxHeartbeats 4000000 in
set_option maxRecDepth 100000 in
theorem m_X7_share_3 {l : Launch} {D : va_G} {tc : TC} {dz : Nat} {ad : KN → Nat} {Ks : List KN} {gm : GM} (I : Mem) (hL : LV gm Ks) (n : Nat) (hn : I (30, 0, 0, 0) 1 = nI n) (hn10 : n ≤ 10) (d e q : Nat) (hd : d < 6) (hen : e < n) (hq : q < 3) (hk : nz ((I (34, 0, 0, 0)) (10 * d + e)) = true) (w : Int32) (hw : inR w (nI 0) (nI 15) = true) (h0 : (!decide ((I (32, 0, 0, 0)) e = nI (d / 2)) || decide (nI q = (I (32, 0, 0, 0)) e)) = true) : MI l yX7_share cX7_share 10 (Option.some ClassFile.FieldType.int) 3 D tc dz ad Ks (lay tc ad gm dz I) [.ref (ad (30, 0, 0, 0)), .int (nI d), .int (nI e), .int (nI q), .int w] (nI 0) (lay tc ad gm dz (thM I 3)) := by
  intro sz
  have hper : inR (nI q) (nI 0) (nI 2) = true := by rw [inR_per, isPer_nI hq]
  refine x_ofW (by decide +kernel) (Nat.le_of_ble_eq_true rfl) (fun pp ee s mm bel meth cd ls X hr hin hz h hl => ?_)
  subst hz
  obtain ⟨hx, hb, hmaxL, hown, hts⟩ := id X.1
  have hl : lv_has ls 10 [(0, .ref (ad (30, 0, 0, 0))), (1, .int (nI d)), (2, .int (nI e)), (3, .int (nI q)), (4, .int w)] := hl
  refine lv_aload_n hx hb dX7_share_0 rfl (lv_at hl 0 rfl) ?_
  refine lv_iload_n hx hb dX7_share_1 rfl (lv_at hl 1 rfl) ?_
  refine lv_iload_n hx hb dX7_share_2 rfl (lv_at hl 2 rfl) ?_
  refine x_doneI X h (x_runV X h (k := (30, 0, 0, 0)) (m_X7_isKnown_in I hL n hn hn10 d e (by omega) (by omega) _) F_X7_isKnown q874 q876 q6 (hL (30, 0, 0, 0) ⟨by decide, rfl, rfl, rfl⟩) rfl rfl rfl (by decide) (by decide) ⟨Nat.le_refl _, Nat.le_refl _⟩ hl.1 (Nat.le_of_ble_eq_true rfl) dX7_share_3 rfl) (fun H locs h => ?_)
  refine b_if_eq (tgt := 22) hx hb dX7_share_6 (by decide) (fun c => by rw [hk] at c; cases c) (fun _ => ?_)
  refine lv_iload_n hx hb dX7_share_9 rfl (lv_at hl 3 rfl) ?_
  refine lv_iconst (v := nI 0) hx hb dX7_share_10 (by decide) ?_
  refine lv_iconst (v := nI 2) hx hb dX7_share_11 (by decide) ?_
  refine x_doneI X h (x_runS X h (m_X7_isIn I (nI q) (nI 0) (nI 2) _) F_X7_isIn q860 q861 rfl (by decide) (by decide) ⟨Nat.le_refl _, Nat.le_refl _⟩ hl.1 (Nat.le_of_ble_eq_true rfl) dX7_share_12 rfl) (fun H locs h => ?_)
  refine b_if_eq (tgt := 22) hx hb dX7_share_15 (by decide) (fun c => by rw [hper] at c; cases c) (fun _ => ?_)
  refine lv_iconst (v := nI 1) hx hb dX7_share_18 (by decide) ?_
  refine lv_goto (tgt := 23) hx hb dX7_share_19 (by decide) ?_
  refine lv_istore (lv' := [(5, .int (nI 1)), (0, .ref (ad (30, 0, 0, 0))), (1, .int (nI d)), (2, .int (nI e)), (3, .int (nI q)), (4, .int w)]) hx hb dX7_share_23 hl (by decide) rfl (fun ls hl => ?_)
  refine lv_iload hx hb dX7_share_25 (lv_at hl 5 rfl) ?_
  refine lv_iconst (v := nI 0) hx hb dX7_share_27 (by decide) ?_
  refine lv_bipush (v := nI 15) hx hb dX7_share_28 (by decide) ?_
  refine x_doneI X h (x_runS X h (m_X7_isIn I w (nI 0) (nI 15) _) F_X7_isIn q860 q861 rfl (by decide) (by decide) ⟨Nat.le_refl _, Nat.le_refl _⟩ hl.1 (Nat.le_of_ble_eq_true rfl) dX7_share_30 rfl) (fun H locs h => ?_)
  refine lv_istore (lv' := [(6, .int (bI (inR w (nI 0) (nI 15)))), (5, .int (nI 1)), (0, .ref (ad (30, 0, 0, 0))), (1, .int (nI d)), (2, .int (nI e)), (3, .int (nI q)), (4, .int w)]) hx hb dX7_share_33 hl (by decide) rfl (fun ls hl => ?_)
  refine lv_aload_n hx hb dX7_share_35 rfl (lv_at hl 2 rfl) ?_
  refine lv_iload hx hb dX7_share_36 (lv_at hl 1 rfl) ?_
  refine lv_if_ne (tgt := 45) hx hb dX7_share_38 (by decide) (fun _ => ?_) (fun c => absurd c (by decide))
  refine lv_iload hx hb dX7_share_45 (lv_at hl 0 rfl) ?_
  refine b_if_ne (tgt := 54) hx hb dX7_share_47 (by decide) (fun _ => ?_) (fun c => by rw [hw] at c; cases c)
  refine lv_aload_n hx hb dX7_share_54 rfl (lv_at hl 2 rfl) ?_
  refine gf_Model_owner X h (hL (30, 0, 0, 0) ⟨by decide, rfl, rfl, rfl⟩) q799 dX7_share_55 ?_
  refine lv_iload_n hx hb dX7_share_58 rfl (lv_at hl 4 rfl) ?_
  refine y_ald X h (fun _ => rfl) (by decide) (hL (32, 0, 0, 0) ⟨by decide, rfl, rfl, rfl⟩) (by omega) (v := I (32, 0, 0, 0) e) rfl dX7_share_59 ?_
  refine lv_iload_n hx hb dX7_share_60 rfl (lv_at hl 3 rfl) ?_
  refine lv_iconst (v := nI 2) hx hb dX7_share_61 (by decide) ?_
  refine n_idiv hx hb (by omega) (by omega) (by omega) dX7_share_62 ?_
  refine lv_icmp_ne (tgt := 76) hx hb dX7_share_63 (by decide) (fun c_63 => ?_) (fun c_63 => ?_)
  · skip
    refine lv_iconst (v := nI 3) hx hb dX7_share_76 (by decide) ?_
    refine lv_goto (tgt := 81) hx hb dX7_share_77 (by decide) ?_
    refine x_doneI X h (x_runV X h (k := (30, 0, 0, 0)) (m_X7_fails3 I hL _) F_X7_fails q863 q865 q5 (hL (30, 0, 0, 0) ⟨by decide, rfl, rfl, rfl⟩) rfl rfl rfl (by decide) (by decide) ⟨Nat.le_refl _, Nat.le_refl _⟩ hl.1 (Nat.le_of_ble_eq_true rfl) dX7_share_81 rfl) (fun H locs h => ?_)
    refine b_if_eq (tgt := 89) hx hb dX7_share_84 (by decide) (fun c => (Bool.noConfusion c)) (fun _ => ?_)
    refine lv_iconst (v := nI 0) hx hb dX7_share_87 (by decide) ?_
    exact x_iret X h hr rfl rfl (fun _ _ => rfl) dX7_share_88
  · skip
    refine lv_iload_n hx hb dX7_share_66 rfl (lv_at hl 5 rfl) ?_
    refine lv_aload_n hx hb dX7_share_67 rfl (lv_at hl 2 rfl) ?_
    refine gf_Model_owner X h (hL (30, 0, 0, 0) ⟨by decide, rfl, rfl, rfl⟩) q799 dX7_share_68 ?_
    refine lv_iload_n hx hb dX7_share_71 rfl (lv_at hl 4 rfl) ?_
    refine y_ald X h (fun _ => rfl) (by decide) (hL (32, 0, 0, 0) ⟨by decide, rfl, rfl, rfl⟩) (by omega) (v := I (32, 0, 0, 0) e) rfl dX7_share_72 ?_
    refine lv_icmp_ne (tgt := 80) hx hb dX7_share_73 (by decide) (fun c_73 => ?_) (fun c_73 => ?_)
    · skip
      exact absurd h0 (by rw [decide_eq_true c_63, decide_eq_false c_73]; decide)
    · skip
      refine lv_iconst (v := nI 3) hx hb dX7_share_76 (by decide) ?_
      refine lv_goto (tgt := 81) hx hb dX7_share_77 (by decide) ?_
      refine x_doneI X h (x_runV X h (k := (30, 0, 0, 0)) (m_X7_fails3 I hL _) F_X7_fails q863 q865 q5 (hL (30, 0, 0, 0) ⟨by decide, rfl, rfl, rfl⟩) rfl rfl rfl (by decide) (by decide) ⟨Nat.le_refl _, Nat.le_refl _⟩ hl.1 (Nat.le_of_ble_eq_true rfl) dX7_share_81 rfl) (fun H locs h => ?_)
      refine b_if_eq (tgt := 89) hx hb dX7_share_84 (by decide) (fun c => (Bool.noConfusion c)) (fun _ => ?_)
      refine lv_iconst (v := nI 0) hx hb dX7_share_87 (by decide) ?_
      exact x_iret X h hr rfl rfl (fun _ _ => rfl) dX7_share_88

set_option maxHeartbeats 4000000 in
set_option maxRecDepth 100000 in
theorem m_X7_share_0 {l : Launch} {D : va_G} {tc : TC} {dz : Nat} {ad : KN → Nat} {Ks : List KN} {gm : GM} (I : Mem) (hL : LV gm Ks) (n : Nat) (hn : I (30, 0, 0, 0) 1 = nI n) (hn10 : n ≤ 10) (d e q : Nat) (hd : d < 6) (hen : e < n) (hq : q < 3) (hk : nz ((I (34, 0, 0, 0)) (10 * d + e)) = true) (w : Int32) (hw : inR w (nI 0) (nI 15) = true) (how : (I (32, 0, 0, 0)) e = nI (d / 2)) (hne : ¬ nI q = (I (32, 0, 0, 0)) e) : MI l yX7_share cX7_share 10 (Option.some ClassFile.FieldType.int) 3 D tc dz ad Ks (lay tc ad gm dz I) [.ref (ad (30, 0, 0, 0)), .int (nI d), .int (nI e), .int (nI q), .int w] ((I (33, 0, 0, 0)) (3 * e + q)) (lay tc ad gm dz (mshM I e q w)) := by
  intro sz
  have hper : inR (nI q) (nI 0) (nI 2) = true := by rw [inR_per, isPer_nI hq]
  refine x_ofW (by decide +kernel) (Nat.le_of_ble_eq_true rfl) (fun pp ee s mm bel meth cd ls X hr hin hz h hl => ?_)
  subst hz
  obtain ⟨hx, hb, hmaxL, hown, hts⟩ := id X.1
  have hl : lv_has ls 10 [(0, .ref (ad (30, 0, 0, 0))), (1, .int (nI d)), (2, .int (nI e)), (3, .int (nI q)), (4, .int w)] := hl
  refine lv_aload_n hx hb dX7_share_0 rfl (lv_at hl 0 rfl) ?_
  refine lv_iload_n hx hb dX7_share_1 rfl (lv_at hl 1 rfl) ?_
  refine lv_iload_n hx hb dX7_share_2 rfl (lv_at hl 2 rfl) ?_
  refine x_doneI X h (x_runV X h (k := (30, 0, 0, 0)) (m_X7_isKnown_in I hL n hn hn10 d e (by omega) (by omega) _) F_X7_isKnown q874 q876 q6 (hL (30, 0, 0, 0) ⟨by decide, rfl, rfl, rfl⟩) rfl rfl rfl (by decide) (by decide) ⟨Nat.le_refl _, Nat.le_refl _⟩ hl.1 (Nat.le_of_ble_eq_true rfl) dX7_share_3 rfl) (fun H locs h => ?_)
  refine b_if_eq (tgt := 22) hx hb dX7_share_6 (by decide) (fun c => by rw [hk] at c; cases c) (fun _ => ?_)
  refine lv_iload_n hx hb dX7_share_9 rfl (lv_at hl 3 rfl) ?_
  refine lv_iconst (v := nI 0) hx hb dX7_share_10 (by decide) ?_
  refine lv_iconst (v := nI 2) hx hb dX7_share_11 (by decide) ?_
  refine x_doneI X h (x_runS X h (m_X7_isIn I (nI q) (nI 0) (nI 2) _) F_X7_isIn q860 q861 rfl (by decide) (by decide) ⟨Nat.le_refl _, Nat.le_refl _⟩ hl.1 (Nat.le_of_ble_eq_true rfl) dX7_share_12 rfl) (fun H locs h => ?_)
  refine b_if_eq (tgt := 22) hx hb dX7_share_15 (by decide) (fun c => by rw [hper] at c; cases c) (fun _ => ?_)
  refine lv_iconst (v := nI 1) hx hb dX7_share_18 (by decide) ?_
  refine lv_goto (tgt := 23) hx hb dX7_share_19 (by decide) ?_
  refine lv_istore (lv' := [(5, .int (nI 1)), (0, .ref (ad (30, 0, 0, 0))), (1, .int (nI d)), (2, .int (nI e)), (3, .int (nI q)), (4, .int w)]) hx hb dX7_share_23 hl (by decide) rfl (fun ls hl => ?_)
  refine lv_iload hx hb dX7_share_25 (lv_at hl 5 rfl) ?_
  refine lv_iconst (v := nI 0) hx hb dX7_share_27 (by decide) ?_
  refine lv_bipush (v := nI 15) hx hb dX7_share_28 (by decide) ?_
  refine x_doneI X h (x_runS X h (m_X7_isIn I w (nI 0) (nI 15) _) F_X7_isIn q860 q861 rfl (by decide) (by decide) ⟨Nat.le_refl _, Nat.le_refl _⟩ hl.1 (Nat.le_of_ble_eq_true rfl) dX7_share_30 rfl) (fun H locs h => ?_)
  refine lv_istore (lv' := [(6, .int (bI (inR w (nI 0) (nI 15)))), (5, .int (nI 1)), (0, .ref (ad (30, 0, 0, 0))), (1, .int (nI d)), (2, .int (nI e)), (3, .int (nI q)), (4, .int w)]) hx hb dX7_share_33 hl (by decide) rfl (fun ls hl => ?_)
  refine lv_aload_n hx hb dX7_share_35 rfl (lv_at hl 2 rfl) ?_
  refine lv_iload hx hb dX7_share_36 (lv_at hl 1 rfl) ?_
  refine lv_if_ne (tgt := 45) hx hb dX7_share_38 (by decide) (fun _ => ?_) (fun c => absurd c (by decide))
  refine lv_iload hx hb dX7_share_45 (lv_at hl 0 rfl) ?_
  refine b_if_ne (tgt := 54) hx hb dX7_share_47 (by decide) (fun _ => ?_) (fun c => by rw [hw] at c; cases c)
  refine lv_aload_n hx hb dX7_share_54 rfl (lv_at hl 2 rfl) ?_
  refine gf_Model_owner X h (hL (30, 0, 0, 0) ⟨by decide, rfl, rfl, rfl⟩) q799 dX7_share_55 ?_
  refine lv_iload_n hx hb dX7_share_58 rfl (lv_at hl 4 rfl) ?_
  refine y_ald X h (fun _ => rfl) (by decide) (hL (32, 0, 0, 0) ⟨by decide, rfl, rfl, rfl⟩) (by omega) (v := I (32, 0, 0, 0) e) rfl dX7_share_59 ?_
  refine lv_iload_n hx hb dX7_share_60 rfl (lv_at hl 3 rfl) ?_
  refine lv_iconst (v := nI 2) hx hb dX7_share_61 (by decide) ?_
  refine n_idiv hx hb (by omega) (by omega) (by omega) dX7_share_62 ?_
  refine lv_icmp_ne (tgt := 76) hx hb dX7_share_63 (by decide) (fun c_63 => ?_) (fun c_63 => ?_)
  · skip
    exact absurd how c_63
  · skip
    refine lv_iload_n hx hb dX7_share_66 rfl (lv_at hl 5 rfl) ?_
    refine lv_aload_n hx hb dX7_share_67 rfl (lv_at hl 2 rfl) ?_
    refine gf_Model_owner X h (hL (30, 0, 0, 0) ⟨by decide, rfl, rfl, rfl⟩) q799 dX7_share_68 ?_
    refine lv_iload_n hx hb dX7_share_71 rfl (lv_at hl 4 rfl) ?_
    refine y_ald X h (fun _ => rfl) (by decide) (hL (32, 0, 0, 0) ⟨by decide, rfl, rfl, rfl⟩) (by omega) (v := I (32, 0, 0, 0) e) rfl dX7_share_72 ?_
    refine lv_icmp_ne (tgt := 80) hx hb dX7_share_73 (by decide) (fun c_73 => ?_) (fun c_73 => ?_)
    · skip
      refine lv_iconst (v := nI 0) hx hb dX7_share_80 (by decide) ?_
      refine x_doneI X h (x_runV X h (k := (30, 0, 0, 0)) (m_X7_fails0 I hL _) F_X7_fails q863 q865 q5 (hL (30, 0, 0, 0) ⟨by decide, rfl, rfl, rfl⟩) rfl rfl rfl (by decide) (by decide) ⟨Nat.le_refl _, Nat.le_refl _⟩ hl.1 (Nat.le_of_ble_eq_true rfl) dX7_share_81 rfl) (fun H locs h => ?_)
      refine b_if_eq (tgt := 89) hx hb dX7_share_84 (by decide) (fun _ => ?_) (fun c => (Bool.noConfusion c))
      refine lv_aload_n hx hb dX7_share_89 rfl (lv_at hl 2 rfl) ?_
      refine gf_Model_shared X h (hL (30, 0, 0, 0) ⟨by decide, rfl, rfl, rfl⟩) q800 dX7_share_90 ?_
      refine lv_iconst (v := nI 3) hx hb dX7_share_93 (by decide) ?_
      refine lv_iload_n hx hb dX7_share_94 rfl (lv_at hl 4 rfl) ?_
      refine n_imul hx hb dX7_share_95 ?_
      refine lv_iload_n hx hb dX7_share_96 rfl (lv_at hl 5 rfl) ?_
      refine n_iadd hx hb dX7_share_97 ?_
      refine y_ald X h (fun _ => rfl) (by decide) (hL (33, 0, 0, 0) ⟨by decide, rfl, rfl, rfl⟩) (by omega) (v := (I (33, 0, 0, 0)) (3 * e + q)) (by rw [th_see (by decide)]) dX7_share_98 ?_
      refine lv_istore (lv' := [(7, .int ((I (33, 0, 0, 0)) (3 * e + q))), (6, .int (bI (inR w (nI 0) (nI 15)))), (5, .int (nI 1)), (0, .ref (ad (30, 0, 0, 0))), (1, .int (nI d)), (2, .int (nI e)), (3, .int (nI q)), (4, .int w)]) hx hb dX7_share_99 hl (by decide) rfl (fun ls hl => ?_)
      refine lv_aload_n hx hb dX7_share_101 rfl (lv_at hl 3 rfl) ?_
      refine gf_Model_shared X h (hL (30, 0, 0, 0) ⟨by decide, rfl, rfl, rfl⟩) q800 dX7_share_102 ?_
      refine lv_iconst (v := nI 3) hx hb dX7_share_105 (by decide) ?_
      refine lv_iload_n hx hb dX7_share_106 rfl (lv_at hl 5 rfl) ?_
      refine n_imul hx hb dX7_share_107 ?_
      refine lv_iload_n hx hb dX7_share_108 rfl (lv_at hl 6 rfl) ?_
      refine n_iadd hx hb dX7_share_109 ?_
      refine lv_iload hx hb dX7_share_110 (lv_at hl 7 rfl) ?_
      refine y_ast X h (fun _ => rfl) (by decide) (hL (33, 0, 0, 0) ⟨by decide, rfl, rfl, rfl⟩) (by omega) dX7_share_112 (fun H locs h => ?_)
      have h := h.eq (congrArg (lay tc ad gm dz) (show (sset (thM I 0) (33, 0, 0, 0) (upd ((thM I 0) (33, 0, 0, 0)) ((3 * e) + q) w)) = (sset (thM I 0) (33, 0, 0, 0) (upd (I (33, 0, 0, 0)) (3 * e + q) w)) from (by rw [th_see (k := (33, 0, 0, 0)) (by decide)])))
      refine lv_iconst (v := nI 2) hx hb dX7_share_113 (by decide) ?_
      refine lv_iload_n hx hb dX7_share_114 rfl (lv_at hl 6 rfl) ?_
      refine n_imul hx hb dX7_share_115 ?_
      refine lv_istore (lv' := [(8, .int (nI (2 * q))), (7, .int ((I (33, 0, 0, 0)) (3 * e + q))), (6, .int (bI (inR w (nI 0) (nI 15)))), (5, .int (nI 1)), (0, .ref (ad (30, 0, 0, 0))), (1, .int (nI d)), (2, .int (nI e)), (3, .int (nI q)), (4, .int w)]) hx hb dX7_share_116 hl (by decide) rfl (fun ls hl => ?_)
      refine y_loop (D := D) (A := wA ad Ks s.heap.size) (ad := ad) (Ks := Ks) (nL := 10) (fun i : Nat => lay tc ad gm dz (sset (sset (sset (thM I 0) (33, 0, 0, 0) (upd (I (33, 0, 0, 0)) (3 * e + q) w)) (35, 0, 0, 0) (shR w q e (I (35, 0, 0, 0)) i)) (37, 0, 0, 0) (shR w q e (I (37, 0, 0, 0)) i))) (fun i => [(8, .int (nI (2 * q + i))), (7, .int ((I (33, 0, 0, 0)) (3 * e + q))), (4, .int w), (3, .int (nI q)), (2, .int (nI e)), (1, .int (nI d)), (0, .ref (ad (30, 0, 0, 0)))]) (fun _ => []) (fun i : Nat => i ≤ 2) (fun i => 2 - i) (fun i hi118 ih118 H locs ls h hl => ?_) 0 (Nat.zero_le _) (h.eq (congrArg (lay tc ad gm dz) (by unfold shR; rw [show (I (35, 0, 0, 0)) = (sset (thM I 0) (33, 0, 0, 0) (upd (I (33, 0, 0, 0)) (3 * e + q) w)) (35, 0, 0, 0) from by rw [sset_ne _ _ (nek (by decide) : ((35, 0, 0, 0) : KN) ≠ (33, 0, 0, 0)), th_see (by decide)], sset_id]; rw [show (I (37, 0, 0, 0)) = (sset (thM I 0) (33, 0, 0, 0) (upd (I (33, 0, 0, 0)) (3 * e + q) w)) (37, 0, 0, 0) from by rw [sset_ne _ _ (nek (by decide) : ((37, 0, 0, 0) : KN) ≠ (33, 0, 0, 0)), th_see (by decide)], sset_id]))) (lv_sub hl [0, 1, 8, 7, 6, 5, 4] rfl) rfl
      have h : Sx D (wA ad Ks s.heap.size) ad Ks (lay tc ad gm dz (sset (sset (sset (thM I 0) (33, 0, 0, 0) (upd (I (33, 0, 0, 0)) (3 * e + q) w)) (35, 0, 0, 0) (shR w q e (I (35, 0, 0, 0)) i)) (37, 0, 0, 0) (shR w q e (I (37, 0, 0, 0)) i))) s H locs := h
      have hl : lv_has ls 10 [(8, .int (nI (2 * q + i))), (7, .int ((I (33, 0, 0, 0)) (3 * e + q))), (4, .int w), (3, .int (nI q)), (2, .int (nI e)), (1, .int (nI d)), (0, .ref (ad (30, 0, 0, 0)))] := hl
      refine lv_iload hx hb dX7_share_118 (lv_at hl 0 rfl) ?_
      refine lv_iconst (v := nI 2) hx hb dX7_share_120 (by decide) ?_
      refine lv_iload_n hx hb dX7_share_121 rfl (lv_at hl 3 rfl) ?_
      refine n_imul hx hb dX7_share_122 ?_
      refine lv_iconst (v := nI 2) hx hb dX7_share_123 (by decide) ?_
      refine n_iadd hx hb dX7_share_124 ?_
      refine n_icmp_ge (tgt := 199) hx hb (by omega) (by omega) dX7_share_125 (by decide) (fun c_125 => ?_) (fun c_125 => ?_)
      · skip
        obtain rfl : i = 2 := by omega
        refine lv_iload hx hb dX7_share_199 (lv_at hl 1 rfl) ?_
        exact x_iret X h hr rfl rfl (fun _ _ => rfl) dX7_share_201
      · skip
        refine lv_iconst (v := nI 0) hx hb dX7_share_128 (by decide) ?_
        refine lv_istore (lv' := [(9, .int (nI 0)), (8, .int (nI (2 * q + i))), (7, .int ((I (33, 0, 0, 0)) (3 * e + q))), (4, .int w), (3, .int (nI q)), (2, .int (nI e)), (1, .int (nI d)), (0, .ref (ad (30, 0, 0, 0)))]) hx hb dX7_share_129 hl (by decide) rfl (fun ls hl => ?_)
        refine y_loop (D := D) (A := wA ad Ks s.heap.size) (ad := ad) (Ks := Ks) (nL := 10) (fun j : Nat => lay tc ad gm dz (sset (sset (sset (thM I 0) (33, 0, 0, 0) (upd (I (33, 0, 0, 0)) (3 * e + q) w)) (35, 0, 0, 0) (rf (24 * (10 * (2 * q + i) + e)) ((24 * (10 * (2 * q + i) + e)) + j) (shG w (24 * (10 * (2 * q + i) + e)) (shR w q e (I (35, 0, 0, 0)) i)) (shR w q e (I (35, 0, 0, 0)) i))) (37, 0, 0, 0) (rf (24 * (10 * (2 * q + i) + e)) ((24 * (10 * (2 * q + i) + e)) + j) (shG w (24 * (10 * (2 * q + i) + e)) (shR w q e (I (37, 0, 0, 0)) i)) (shR w q e (I (37, 0, 0, 0)) i)))) (fun j => [(9, .int (nI j)), (8, .int (nI (2 * q + i))), (7, .int ((I (33, 0, 0, 0)) (3 * e + q))), (4, .int w), (3, .int (nI q)), (2, .int (nI e)), (1, .int (nI d)), (0, .ref (ad (30, 0, 0, 0)))]) (fun _ => []) (fun j : Nat => j ≤ 24) (fun j => 24 - j) (fun j hi131 ih131 H locs ls h hl => ?_) 0 (Nat.zero_le _) (h.eq (congrArg (lay tc ad gm dz) (by simp only [Nat.add_zero, rf_0]))) (lv_sub hl [0, 1, 2, 3, 4, 5, 6, 7] rfl) rfl
        have h : Sx D (wA ad Ks s.heap.size) ad Ks (lay tc ad gm dz (sset (sset (sset (thM I 0) (33, 0, 0, 0) (upd (I (33, 0, 0, 0)) (3 * e + q) w)) (35, 0, 0, 0) (rf (24 * (10 * (2 * q + i) + e)) ((24 * (10 * (2 * q + i) + e)) + j) (shG w (24 * (10 * (2 * q + i) + e)) (shR w q e (I (35, 0, 0, 0)) i)) (shR w q e (I (35, 0, 0, 0)) i))) (37, 0, 0, 0) (rf (24 * (10 * (2 * q + i) + e)) ((24 * (10 * (2 * q + i) + e)) + j) (shG w (24 * (10 * (2 * q + i) + e)) (shR w q e (I (37, 0, 0, 0)) i)) (shR w q e (I (37, 0, 0, 0)) i)))) s H locs := h
        have hl : lv_has ls 10 [(9, .int (nI j)), (8, .int (nI (2 * q + i))), (7, .int ((I (33, 0, 0, 0)) (3 * e + q))), (4, .int w), (3, .int (nI q)), (2, .int (nI e)), (1, .int (nI d)), (0, .ref (ad (30, 0, 0, 0)))] := hl
        refine lv_iload hx hb dX7_share_131 (lv_at hl 0 rfl) ?_
        refine lv_bipush (v := nI 24) hx hb dX7_share_133 (by decide) ?_
        refine n_icmp_ge (tgt := 193) hx hb (by omega) (by omega) dX7_share_135 (by decide) (fun c_135 => ?_) (fun c_135 => ?_)
        · skip
          obtain rfl : j = 24 := by omega
          refine n_iinc (j := (2 * q + i)) (n := 1) (lv' := [(8, .int (nI ((2 * q + i) + 1))), (9, .int (nI 24)), (7, .int ((I (33, 0, 0, 0)) (3 * e + q))), (4, .int w), (3, .int (nI q)), (2, .int (nI e)), (1, .int (nI d)), (0, .ref (ad (30, 0, 0, 0)))]) hx hb dX7_share_193 hl (k := 1) rfl (by decide) (by decide) rfl (fun ls hl => ?_)
          refine lv_goto (tgt := 118) hx hb dX7_share_196 (by decide) ?_
          exact ih118 (i + 1) (by omega) (by omega) H locs ls (h.eq (congrArg (lay tc ad gm dz) rfl)) (lv_sub hl [0, 2, 3, 4, 5, 6, 7] rfl)
        · skip
          refine lv_iload hx hb dX7_share_138 (lv_at hl 3 rfl) ?_
          refine lv_iload hx hb dX7_share_140 (lv_at hl 0 rfl) ?_
          refine lv_bipush (v := nI 6) hx hb dX7_share_142 (by decide) ?_
          refine n_idiv hx hb (by omega) (by omega) (by omega) dX7_share_144 ?_
          refine lv_ishr hx hb dX7_share_145 ?_
          refine lv_iconst (v := nI 1) hx hb dX7_share_146 (by decide) ?_
          refine lv_iand hx hb dX7_share_147 ?_
          refine lv_if_ne (tgt := 187) hx hb dX7_share_148 (by decide) (fun c_148 => ?_) (fun c_148 => ?_)
          · skip
            have hbt := bit_n c_148
            refine n_iinc (j := j) (n := 1) (lv' := [(9, .int (nI (j + 1))), (8, .int (nI (2 * q + i))), (7, .int ((I (33, 0, 0, 0)) (3 * e + q))), (4, .int w), (3, .int (nI q)), (2, .int (nI e)), (1, .int (nI d)), (0, .ref (ad (30, 0, 0, 0)))]) hx hb dX7_share_187 hl (k := 0) rfl (by decide) (by decide) rfl (fun ls hl => ?_)
            refine lv_goto (tgt := 131) hx hb dX7_share_190 (by decide) ?_
            have hm : (sset (sset (sset (thM I 0) (33, 0, 0, 0) (upd (I (33, 0, 0, 0)) (3 * e + q) w)) (35, 0, 0, 0) (rf (24 * (10 * (2 * q + i) + e)) ((24 * (10 * (2 * q + i) + e)) + j) (shG w (24 * (10 * (2 * q + i) + e)) (shR w q e (I (35, 0, 0, 0)) i)) (shR w q e (I (35, 0, 0, 0)) i))) (37, 0, 0, 0) (rf (24 * (10 * (2 * q + i) + e)) ((24 * (10 * (2 * q + i) + e)) + j) (shG w (24 * (10 * (2 * q + i) + e)) (shR w q e (I (37, 0, 0, 0)) i)) (shR w q e (I (37, 0, 0, 0)) i))) = (sset (sset (sset (thM I 0) (33, 0, 0, 0) (upd (I (33, 0, 0, 0)) (3 * e + q) w)) (35, 0, 0, 0) (rf (24 * (10 * (2 * q + i) + e)) ((24 * (10 * (2 * q + i) + e)) + (j + 1)) (shG w (24 * (10 * (2 * q + i) + e)) (shR w q e (I (35, 0, 0, 0)) i)) (shR w q e (I (35, 0, 0, 0)) i))) (37, 0, 0, 0) (rf (24 * (10 * (2 * q + i) + e)) ((24 * (10 * (2 * q + i) + e)) + (j + 1)) (shG w (24 * (10 * (2 * q + i) + e)) (shR w q e (I (37, 0, 0, 0)) i)) (shR w q e (I (37, 0, 0, 0)) i))) := by
              rw [rf_n _ _ _ _ (by simp only [shG, Nat.add_sub_cancel_left, hbt, ↓reduceIte, Bool.false_eq_true] <;> rfl), rf_n _ _ (shG w (24 * (10 * (2 * q + i) + e)) (shR w q e (I (37, 0, 0, 0)) i)) _ (by simp only [shG, Nat.add_sub_cancel_left, hbt, ↓reduceIte, Bool.false_eq_true] <;> rfl)]
            exact ih131 (j + 1) (by omega) (by omega) H locs ls (h.eq (congrArg (lay tc ad gm dz) hm)) (lv_sub hl [0, 1, 2, 3, 4, 5, 6, 7] rfl)
          · skip
            have hbt := bit_z c_148
            refine lv_aload_n hx hb dX7_share_151 rfl (lv_at hl 7 rfl) ?_
            refine gf_Model_act X h (hL (30, 0, 0, 0) ⟨by decide, rfl, rfl, rfl⟩) q802 dX7_share_152 ?_
            refine lv_bipush (v := nI 24) hx hb dX7_share_155 (by decide) ?_
            refine lv_iload hx hb dX7_share_157 (lv_at hl 1 rfl) ?_
            refine lv_iload_n hx hb dX7_share_159 rfl (lv_at hl 5 rfl) ?_
            refine x_doneI X h (x_runS X h (m_X7_pair (sset (sset (sset (thM I 0) (33, 0, 0, 0) (upd (I (33, 0, 0, 0)) (3 * e + q) w)) (35, 0, 0, 0) (rf (24 * (10 * (2 * q + i) + e)) ((24 * (10 * (2 * q + i) + e)) + j) (shG w (24 * (10 * (2 * q + i) + e)) (shR w q e (I (35, 0, 0, 0)) i)) (shR w q e (I (35, 0, 0, 0)) i))) (37, 0, 0, 0) (rf (24 * (10 * (2 * q + i) + e)) ((24 * (10 * (2 * q + i) + e)) + j) (shG w (24 * (10 * (2 * q + i) + e)) (shR w q e (I (37, 0, 0, 0)) i)) (shR w q e (I (37, 0, 0, 0)) i))) (2 * q + i) e _) F_X7_pair q867 q868 rfl (by decide) (by decide) ⟨Nat.le_refl _, Nat.le_refl _⟩ hl.1 (Nat.le_of_ble_eq_true rfl) dX7_share_160 rfl) (fun H locs h => ?_)
            refine n_imul hx hb dX7_share_163 ?_
            refine lv_iload hx hb dX7_share_164 (lv_at hl 0 rfl) ?_
            refine n_iadd hx hb dX7_share_166 ?_
            refine lv_iconst (v := nI 0) hx hb dX7_share_167 (by decide) ?_
            refine y_ast X h (fun _ => rfl) (by decide) (hL (35, 0, 0, 0) ⟨by decide, rfl, rfl, rfl⟩) (by omega) dX7_share_168 (fun H locs h => ?_)
            refine lv_aload_n hx hb dX7_share_169 rfl (lv_at hl 7 rfl) ?_
            refine gf_Model_seen X h (hL (30, 0, 0, 0) ⟨by decide, rfl, rfl, rfl⟩) q804 dX7_share_170 ?_
            refine lv_bipush (v := nI 24) hx hb dX7_share_173 (by decide) ?_
            refine lv_iload hx hb dX7_share_175 (lv_at hl 1 rfl) ?_
            refine lv_iload_n hx hb dX7_share_177 rfl (lv_at hl 5 rfl) ?_
            refine x_doneI X h (x_runS X h (m_X7_pair (sset (sset (sset (sset (thM I 0) (33, 0, 0, 0) (upd (I (33, 0, 0, 0)) (3 * e + q) w)) (35, 0, 0, 0) (rf (24 * (10 * (2 * q + i) + e)) ((24 * (10 * (2 * q + i) + e)) + j) (shG w (24 * (10 * (2 * q + i) + e)) (shR w q e (I (35, 0, 0, 0)) i)) (shR w q e (I (35, 0, 0, 0)) i))) (37, 0, 0, 0) (rf (24 * (10 * (2 * q + i) + e)) ((24 * (10 * (2 * q + i) + e)) + j) (shG w (24 * (10 * (2 * q + i) + e)) (shR w q e (I (37, 0, 0, 0)) i)) (shR w q e (I (37, 0, 0, 0)) i))) (35, 0, 0, 0) (upd ((sset (sset (sset (thM I 0) (33, 0, 0, 0) (upd (I (33, 0, 0, 0)) (3 * e + q) w)) (35, 0, 0, 0) (rf (24 * (10 * (2 * q + i) + e)) ((24 * (10 * (2 * q + i) + e)) + j) (shG w (24 * (10 * (2 * q + i) + e)) (shR w q e (I (35, 0, 0, 0)) i)) (shR w q e (I (35, 0, 0, 0)) i))) (37, 0, 0, 0) (rf (24 * (10 * (2 * q + i) + e)) ((24 * (10 * (2 * q + i) + e)) + j) (shG w (24 * (10 * (2 * q + i) + e)) (shR w q e (I (37, 0, 0, 0)) i)) (shR w q e (I (37, 0, 0, 0)) i))) (35, 0, 0, 0)) ((24 * (10 * (2 * q + i) + e)) + j) (nI 0))) (2 * q + i) e _) F_X7_pair q867 q868 rfl (by decide) (by decide) ⟨Nat.le_refl _, Nat.le_refl _⟩ hl.1 (Nat.le_of_ble_eq_true rfl) dX7_share_178 rfl) (fun H locs h => ?_)
            refine n_imul hx hb dX7_share_181 ?_
            refine lv_iload hx hb dX7_share_182 (lv_at hl 0 rfl) ?_
            refine n_iadd hx hb dX7_share_184 ?_
            refine lv_iconst (v := nI 0) hx hb dX7_share_185 (by decide) ?_
            refine y_ast X h (fun _ => rfl) (by decide) (hL (37, 0, 0, 0) ⟨by decide, rfl, rfl, rfl⟩) (by omega) dX7_share_186 (fun H locs h => ?_)
            refine n_iinc (j := j) (n := 1) (lv' := [(9, .int (nI (j + 1))), (8, .int (nI (2 * q + i))), (7, .int ((I (33, 0, 0, 0)) (3 * e + q))), (4, .int w), (3, .int (nI q)), (2, .int (nI e)), (1, .int (nI d)), (0, .ref (ad (30, 0, 0, 0)))]) hx hb dX7_share_187 hl (k := 0) rfl (by decide) (by decide) rfl (fun ls hl => ?_)
            refine lv_goto (tgt := 131) hx hb dX7_share_190 (by decide) ?_
            have hm : (sset (sset (sset (sset (sset (thM I 0) (33, 0, 0, 0) (upd (I (33, 0, 0, 0)) (3 * e + q) w)) (35, 0, 0, 0) (rf (24 * (10 * (2 * q + i) + e)) ((24 * (10 * (2 * q + i) + e)) + j) (shG w (24 * (10 * (2 * q + i) + e)) (shR w q e (I (35, 0, 0, 0)) i)) (shR w q e (I (35, 0, 0, 0)) i))) (37, 0, 0, 0) (rf (24 * (10 * (2 * q + i) + e)) ((24 * (10 * (2 * q + i) + e)) + j) (shG w (24 * (10 * (2 * q + i) + e)) (shR w q e (I (37, 0, 0, 0)) i)) (shR w q e (I (37, 0, 0, 0)) i))) (35, 0, 0, 0) (upd ((sset (sset (sset (thM I 0) (33, 0, 0, 0) (upd (I (33, 0, 0, 0)) (3 * e + q) w)) (35, 0, 0, 0) (rf (24 * (10 * (2 * q + i) + e)) ((24 * (10 * (2 * q + i) + e)) + j) (shG w (24 * (10 * (2 * q + i) + e)) (shR w q e (I (35, 0, 0, 0)) i)) (shR w q e (I (35, 0, 0, 0)) i))) (37, 0, 0, 0) (rf (24 * (10 * (2 * q + i) + e)) ((24 * (10 * (2 * q + i) + e)) + j) (shG w (24 * (10 * (2 * q + i) + e)) (shR w q e (I (37, 0, 0, 0)) i)) (shR w q e (I (37, 0, 0, 0)) i))) (35, 0, 0, 0)) ((24 * (10 * (2 * q + i) + e)) + j) (nI 0))) (37, 0, 0, 0) (upd ((sset (sset (sset (sset (thM I 0) (33, 0, 0, 0) (upd (I (33, 0, 0, 0)) (3 * e + q) w)) (35, 0, 0, 0) (rf (24 * (10 * (2 * q + i) + e)) ((24 * (10 * (2 * q + i) + e)) + j) (shG w (24 * (10 * (2 * q + i) + e)) (shR w q e (I (35, 0, 0, 0)) i)) (shR w q e (I (35, 0, 0, 0)) i))) (37, 0, 0, 0) (rf (24 * (10 * (2 * q + i) + e)) ((24 * (10 * (2 * q + i) + e)) + j) (shG w (24 * (10 * (2 * q + i) + e)) (shR w q e (I (37, 0, 0, 0)) i)) (shR w q e (I (37, 0, 0, 0)) i))) (35, 0, 0, 0) (upd ((sset (sset (sset (thM I 0) (33, 0, 0, 0) (upd (I (33, 0, 0, 0)) (3 * e + q) w)) (35, 0, 0, 0) (rf (24 * (10 * (2 * q + i) + e)) ((24 * (10 * (2 * q + i) + e)) + j) (shG w (24 * (10 * (2 * q + i) + e)) (shR w q e (I (35, 0, 0, 0)) i)) (shR w q e (I (35, 0, 0, 0)) i))) (37, 0, 0, 0) (rf (24 * (10 * (2 * q + i) + e)) ((24 * (10 * (2 * q + i) + e)) + j) (shG w (24 * (10 * (2 * q + i) + e)) (shR w q e (I (37, 0, 0, 0)) i)) (shR w q e (I (37, 0, 0, 0)) i))) (35, 0, 0, 0)) ((24 * (10 * (2 * q + i) + e)) + j) (nI 0))) (37, 0, 0, 0)) ((24 * (10 * (2 * q + i) + e)) + j) (nI 0))) = (sset (sset (sset (thM I 0) (33, 0, 0, 0) (upd (I (33, 0, 0, 0)) (3 * e + q) w)) (35, 0, 0, 0) (rf (24 * (10 * (2 * q + i) + e)) ((24 * (10 * (2 * q + i) + e)) + (j + 1)) (shG w (24 * (10 * (2 * q + i) + e)) (shR w q e (I (35, 0, 0, 0)) i)) (shR w q e (I (35, 0, 0, 0)) i))) (37, 0, 0, 0) (rf (24 * (10 * (2 * q + i) + e)) ((24 * (10 * (2 * q + i) + e)) + (j + 1)) (shG w (24 * (10 * (2 * q + i) + e)) (shR w q e (I (37, 0, 0, 0)) i)) (shR w q e (I (37, 0, 0, 0)) i))) := by
              funext nn
              by_cases e0 : nn = (35, 0, 0, 0)
              · rw [e0]
                simp only [sset_eq, sset_ne _ _ (nek (by decide) : (35, 0, 0, 0) ≠ (37, 0, 0, 0))]
                exact rf_s _ _ _ _ (by simp only [shG, Nat.add_sub_cancel_left, hbt, ↓reduceIte, Bool.false_eq_true] <;> rfl)
              · skip
                by_cases e1 : nn = (37, 0, 0, 0)
                · rw [e1]
                  simp only [sset_eq, sset_ne _ _ (nek (by decide) : (37, 0, 0, 0) ≠ (35, 0, 0, 0))]
                  exact rf_s _ _ _ _ (by simp only [shG, Nat.add_sub_cancel_left, hbt, ↓reduceIte, Bool.false_eq_true] <;> rfl)
                · skip
                  simp only [sset_ne _ _ e0, sset_ne _ _ e1]
            exact ih131 (j + 1) (by omega) (by omega) H locs ls (h.eq (congrArg (lay tc ad gm dz) hm)) (lv_sub hl [0, 1, 2, 3, 4, 5, 6, 7] rfl)
    · skip
      exact absurd c_73 hne
