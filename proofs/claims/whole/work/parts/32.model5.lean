set_option maxHeartbeats 4000000 in
set_option maxRecDepth 100000 in
theorem m_X7_merge_1 {l : Launch} {D : va_G} {tc : TC} {dz : Nat} {ad : KN → Nat} {Ks : List KN} {gm : GM} (I : Mem) (hL : LV gm Ks) (x y : Int32) (h0 : (isDev x && isDev y) = false) : MI l yX7_merge cX7_merge 8 (Option.some ClassFile.FieldType.int) 2 D tc dz ad Ks (lay tc ad gm dz I) [.ref (ad (30, 0, 0, 0)), .int x, .int y] (nI 0) (lay tc ad gm dz (thM I 1)) := by
  intro sz
  refine x_ofW (by decide +kernel) (Nat.le_of_ble_eq_true rfl) (fun pp ee s mm bel meth cd ls X hr hin hz h hl => ?_)
  subst hz
  obtain ⟨hx, hb, hmaxL, hown, hts⟩ := id X.1
  have hl : lv_has ls 8 [(0, .ref (ad (30, 0, 0, 0))), (1, .int x), (2, .int y)] := hl
  refine lv_iload_n hx hb dX7_merge_0 rfl (lv_at hl 1 rfl) ?_
  refine x_doneI X h (x_runS X h (m_X7_isDevice I x _) F_X7_isDevice q857 q858 rfl (by decide) (by decide) ⟨Nat.le_refl _, Nat.le_refl _⟩ hl.1 (Nat.le_of_ble_eq_true rfl) dX7_merge_1 rfl) (fun H locs h => ?_)
  refine b_if_eq (tgt := 18) hx hb dX7_merge_4 (by decide) (fun c_4 => ?_) (fun c_4 => ?_)
  · skip
    refine lv_iconst (v := nI 0) hx hb dX7_merge_18 (by decide) ?_
    refine lv_istore_n (lv' := [(3, .int (nI 0)), (0, .ref (ad (30, 0, 0, 0))), (1, .int x), (2, .int y)]) hx hb dX7_merge_19 rfl hl (by decide) rfl (fun ls hl => ?_)
    refine lv_aload_n hx hb dX7_merge_20 rfl (lv_at hl 1 rfl) ?_
    refine lv_iload_n hx hb dX7_merge_21 rfl (lv_at hl 0 rfl) ?_
    refine lv_if_ne (tgt := 29) hx hb dX7_merge_22 (by decide) (fun c => absurd c (by decide)) (fun _ => ?_)
    refine lv_iconst (v := nI 1) hx hb dX7_merge_25 (by decide) ?_
    refine lv_goto (tgt := 39) hx hb dX7_merge_26 (by decide) ?_
    refine x_doneI X h (x_runV X h (k := (30, 0, 0, 0)) (m_X7_fails1 I hL _) F_X7_fails q863 q865 q5 (hL (30, 0, 0, 0) ⟨by decide, rfl, rfl, rfl⟩) rfl rfl rfl (by decide) (by decide) ⟨Nat.le_refl _, Nat.le_refl _⟩ hl.1 (Nat.le_of_ble_eq_true rfl) dX7_merge_39 rfl) (fun H locs h => ?_)
    refine b_if_eq (tgt := 47) hx hb dX7_merge_42 (by decide) (fun c => (Bool.noConfusion c)) (fun _ => ?_)
    refine lv_iconst (v := nI 0) hx hb dX7_merge_45 (by decide) ?_
    exact x_iret X h hr rfl rfl (fun _ _ => rfl) dX7_merge_46
  · skip
    refine lv_iload_n hx hb dX7_merge_7 rfl (lv_at hl 2 rfl) ?_
    refine x_doneI X h (x_runS X h (m_X7_isDevice I y _) F_X7_isDevice q857 q858 rfl (by decide) (by decide) ⟨Nat.le_refl _, Nat.le_refl _⟩ hl.1 (Nat.le_of_ble_eq_true rfl) dX7_merge_8 rfl) (fun H locs h => ?_)
    refine b_if_eq (tgt := 18) hx hb dX7_merge_11 (by decide) (fun c_11 => ?_) (fun c_11 => ?_)
    · skip
      refine lv_iconst (v := nI 0) hx hb dX7_merge_18 (by decide) ?_
      refine lv_istore_n (lv' := [(3, .int (nI 0)), (0, .ref (ad (30, 0, 0, 0))), (1, .int x), (2, .int y)]) hx hb dX7_merge_19 rfl hl (by decide) rfl (fun ls hl => ?_)
      refine lv_aload_n hx hb dX7_merge_20 rfl (lv_at hl 1 rfl) ?_
      refine lv_iload_n hx hb dX7_merge_21 rfl (lv_at hl 0 rfl) ?_
      refine lv_if_ne (tgt := 29) hx hb dX7_merge_22 (by decide) (fun c => absurd c (by decide)) (fun _ => ?_)
      refine lv_iconst (v := nI 1) hx hb dX7_merge_25 (by decide) ?_
      refine lv_goto (tgt := 39) hx hb dX7_merge_26 (by decide) ?_
      refine x_doneI X h (x_runV X h (k := (30, 0, 0, 0)) (m_X7_fails1 I hL _) F_X7_fails q863 q865 q5 (hL (30, 0, 0, 0) ⟨by decide, rfl, rfl, rfl⟩) rfl rfl rfl (by decide) (by decide) ⟨Nat.le_refl _, Nat.le_refl _⟩ hl.1 (Nat.le_of_ble_eq_true rfl) dX7_merge_39 rfl) (fun H locs h => ?_)
      refine b_if_eq (tgt := 47) hx hb dX7_merge_42 (by decide) (fun c => (Bool.noConfusion c)) (fun _ => ?_)
      refine lv_iconst (v := nI 0) hx hb dX7_merge_45 (by decide) ?_
      exact x_iret X h hr rfl rfl (fun _ _ => rfl) dX7_merge_46
    · skip
      exact absurd h0 (by rw [c_4, c_11]; decide)

set_option maxHeartbeats 4000000 in
set_option maxRecDepth 100000 in
theorem m_X7_merge_2 {l : Launch} {D : va_G} {tc : TC} {dz : Nat} {ad : KN → Nat} {Ks : List KN} {gm : GM} (I : Mem) (hL : LV gm Ks) (d o : Nat) (hd : d < 6) (ho : o < 6) (hne : d = o) : MI l yX7_merge cX7_merge 8 (Option.some ClassFile.FieldType.int) 2 D tc dz ad Ks (lay tc ad gm dz I) [.ref (ad (30, 0, 0, 0)), .int (nI d), .int (nI o)] (nI 0) (lay tc ad gm dz (thM I 2)) := by
  intro sz
  refine x_ofW (by decide +kernel) (Nat.le_of_ble_eq_true rfl) (fun pp ee s mm bel meth cd ls X hr hin hz h hl => ?_)
  subst hz
  obtain ⟨hx, hb, hmaxL, hown, hts⟩ := id X.1
  have hl : lv_has ls 8 [(0, .ref (ad (30, 0, 0, 0))), (1, .int (nI d)), (2, .int (nI o))] := hl
  refine lv_iload_n hx hb dX7_merge_0 rfl (lv_at hl 1 rfl) ?_
  refine x_doneI X h (x_runS X h (m_X7_isDevice_in I d (by omega) _) F_X7_isDevice q857 q858 rfl (by decide) (by decide) ⟨Nat.le_refl _, Nat.le_refl _⟩ hl.1 (Nat.le_of_ble_eq_true rfl) dX7_merge_1 rfl) (fun H locs h => ?_)
  refine b_if_eq (tgt := 18) hx hb dX7_merge_4 (by decide) (fun c => (Bool.noConfusion c)) (fun _ => ?_)
  refine lv_iload_n hx hb dX7_merge_7 rfl (lv_at hl 2 rfl) ?_
  refine x_doneI X h (x_runS X h (m_X7_isDevice_in I o (by omega) _) F_X7_isDevice q857 q858 rfl (by decide) (by decide) ⟨Nat.le_refl _, Nat.le_refl _⟩ hl.1 (Nat.le_of_ble_eq_true rfl) dX7_merge_8 rfl) (fun H locs h => ?_)
  refine b_if_eq (tgt := 18) hx hb dX7_merge_11 (by decide) (fun c => (Bool.noConfusion c)) (fun _ => ?_)
  refine lv_iconst (v := nI 1) hx hb dX7_merge_14 (by decide) ?_
  refine lv_goto (tgt := 19) hx hb dX7_merge_15 (by decide) ?_
  refine lv_istore_n (lv' := [(3, .int (nI 1)), (0, .ref (ad (30, 0, 0, 0))), (1, .int (nI d)), (2, .int (nI o))]) hx hb dX7_merge_19 rfl hl (by decide) rfl (fun ls hl => ?_)
  refine lv_aload_n hx hb dX7_merge_20 rfl (lv_at hl 1 rfl) ?_
  refine lv_iload_n hx hb dX7_merge_21 rfl (lv_at hl 0 rfl) ?_
  refine lv_if_ne (tgt := 29) hx hb dX7_merge_22 (by decide) (fun _ => ?_) (fun c => absurd c (by decide))
  refine lv_iload_n hx hb dX7_merge_29 rfl (lv_at hl 2 rfl) ?_
  refine lv_iload_n hx hb dX7_merge_30 rfl (lv_at hl 3 rfl) ?_
  refine n_icmp_ne (tgt := 38) hx hb (by omega) (by omega) dX7_merge_31 (by decide) (fun c_31 => ?_) (fun c_31 => ?_)
  · skip
    exact absurd hne c_31
  · skip
    refine lv_iconst (v := nI 2) hx hb dX7_merge_34 (by decide) ?_
    refine lv_goto (tgt := 39) hx hb dX7_merge_35 (by decide) ?_
    refine x_doneI X h (x_runV X h (k := (30, 0, 0, 0)) (m_X7_fails2 I hL _) F_X7_fails q863 q865 q5 (hL (30, 0, 0, 0) ⟨by decide, rfl, rfl, rfl⟩) rfl rfl rfl (by decide) (by decide) ⟨Nat.le_refl _, Nat.le_refl _⟩ hl.1 (Nat.le_of_ble_eq_true rfl) dX7_merge_39 rfl) (fun H locs h => ?_)
    refine b_if_eq (tgt := 47) hx hb dX7_merge_42 (by decide) (fun c => (Bool.noConfusion c)) (fun _ => ?_)
    refine lv_iconst (v := nI 0) hx hb dX7_merge_45 (by decide) ?_
    exact x_iret X h hr rfl rfl (fun _ _ => rfl) dX7_merge_46

set_option maxHeartbeats 4000000 in
set_option maxRecDepth 100000 in
theorem m_X7_merge_0 {l : Launch} {D : va_G} {tc : TC} {dz : Nat} {ad : KN → Nat} {Ks : List KN} {gm : GM} (I : Mem) (hL : LV gm Ks) (n : Nat) (hn : I (30, 0, 0, 0) 1 = nI n) (hn10 : n ≤ 10) (m : Nat) (hmm : I (30, 0, 0, 0) 2 = nI m) (hm5 : m ≤ 1000) (d o : Nat) (hd : d < 6) (ho : o < 6) (hne : d ≠ o) : MI l yX7_merge cX7_merge 8 (Option.some ClassFile.FieldType.int) 3 D tc dz ad Ks (lay tc ad gm dz I) [.ref (ad (30, 0, 0, 0)), .int (nI d), .int (nI o)] (nI (100 * mmG I d o m n) + mmM I d o m n (30, 0, 0, 0) 3) (lay tc ad gm dz (mmM I d o m n)) := by
  intro sz
  refine x_ofW (by decide +kernel) (Nat.le_of_ble_eq_true rfl) (fun pp ee s mm bel meth cd ls X hr hin hz h hl => ?_)
  subst hz
  obtain ⟨hx, hb, hmaxL, hown, hts⟩ := id X.1
  have hl : lv_has ls 8 [(0, .ref (ad (30, 0, 0, 0))), (1, .int (nI d)), (2, .int (nI o))] := hl
  refine lv_iload_n hx hb dX7_merge_0 rfl (lv_at hl 1 rfl) ?_
  refine x_doneI X h (x_runS X h (m_X7_isDevice_in I d (by omega) _) F_X7_isDevice q857 q858 rfl (by decide) (by decide) ⟨Nat.le_refl _, Nat.le_refl _⟩ hl.1 (Nat.le_of_ble_eq_true rfl) dX7_merge_1 rfl) (fun H locs h => ?_)
  refine b_if_eq (tgt := 18) hx hb dX7_merge_4 (by decide) (fun c => (Bool.noConfusion c)) (fun _ => ?_)
  refine lv_iload_n hx hb dX7_merge_7 rfl (lv_at hl 2 rfl) ?_
  refine x_doneI X h (x_runS X h (m_X7_isDevice_in I o (by omega) _) F_X7_isDevice q857 q858 rfl (by decide) (by decide) ⟨Nat.le_refl _, Nat.le_refl _⟩ hl.1 (Nat.le_of_ble_eq_true rfl) dX7_merge_8 rfl) (fun H locs h => ?_)
  refine b_if_eq (tgt := 18) hx hb dX7_merge_11 (by decide) (fun c => (Bool.noConfusion c)) (fun _ => ?_)
  refine lv_iconst (v := nI 1) hx hb dX7_merge_14 (by decide) ?_
  refine lv_goto (tgt := 19) hx hb dX7_merge_15 (by decide) ?_
  refine lv_istore_n (lv' := [(3, .int (nI 1)), (0, .ref (ad (30, 0, 0, 0))), (1, .int (nI d)), (2, .int (nI o))]) hx hb dX7_merge_19 rfl hl (by decide) rfl (fun ls hl => ?_)
  refine lv_aload_n hx hb dX7_merge_20 rfl (lv_at hl 1 rfl) ?_
  refine lv_iload_n hx hb dX7_merge_21 rfl (lv_at hl 0 rfl) ?_
  refine lv_if_ne (tgt := 29) hx hb dX7_merge_22 (by decide) (fun _ => ?_) (fun c => absurd c (by decide))
  refine lv_iload_n hx hb dX7_merge_29 rfl (lv_at hl 2 rfl) ?_
  refine lv_iload_n hx hb dX7_merge_30 rfl (lv_at hl 3 rfl) ?_
  refine n_icmp_ne (tgt := 38) hx hb (by omega) (by omega) dX7_merge_31 (by decide) (fun c_31 => ?_) (fun c_31 => ?_)
  · skip
    refine lv_iconst (v := nI 0) hx hb dX7_merge_38 (by decide) ?_
    refine x_doneI X h (x_runV X h (k := (30, 0, 0, 0)) (m_X7_fails0 I hL _) F_X7_fails q863 q865 q5 (hL (30, 0, 0, 0) ⟨by decide, rfl, rfl, rfl⟩) rfl rfl rfl (by decide) (by decide) ⟨Nat.le_refl _, Nat.le_refl _⟩ hl.1 (Nat.le_of_ble_eq_true rfl) dX7_merge_39 rfl) (fun H locs h => ?_)
    refine b_if_eq (tgt := 47) hx hb dX7_merge_42 (by decide) (fun _ => ?_) (fun c => (Bool.noConfusion c))
    refine lv_aload_n hx hb dX7_merge_47 rfl (lv_at hl 1 rfl) ?_
    refine lv_iconst (v := nI 0) hx hb dX7_merge_48 (by decide) ?_
    refine pf_Model_gained X h (hL (30, 0, 0, 0) ⟨by decide, rfl, rfl, rfl⟩) q811 dX7_merge_49 (fun H locs h => ?_)
    have h := h.eq (congrArg (lay tc ad gm dz) (show (sset (thM I 0) (30, 0, 0, 0) (upd ((thM I 0) (30, 0, 0, 0)) 3 (nI 0))) = (mmM I d o m 0) from rfl))
    refine lv_iconst (v := nI 0) hx hb dX7_merge_52 (by decide) ?_
    refine lv_istore (lv' := [(4, .int (nI 0)), (3, .int (nI 1)), (0, .ref (ad (30, 0, 0, 0))), (1, .int (nI d)), (2, .int (nI o))]) hx hb dX7_merge_53 hl (by decide) rfl (fun ls hl => ?_)
    refine lv_iconst (v := nI 0) hx hb dX7_merge_55 (by decide) ?_
    refine lv_istore (lv' := [(5, .int (nI 0)), (4, .int (nI 0)), (3, .int (nI 1)), (0, .ref (ad (30, 0, 0, 0))), (1, .int (nI d)), (2, .int (nI o))]) hx hb dX7_merge_56 hl (by decide) rfl (fun ls hl => ?_)
    refine y_loop (D := D) (A := wA ad Ks s.heap.size) (ad := ad) (Ks := Ks) (nL := 8) (fun i : Nat => lay tc ad gm dz (mmM I d o m i)) (fun i => [(5, .int (nI i)), (4, .int (nI (mmG I d o m i))), (2, .int (nI o)), (1, .int (nI d)), (0, .ref (ad (30, 0, 0, 0)))]) (fun _ => []) (fun i : Nat => i ≤ n) (fun i => n - i) (fun i hi58 ih58 H locs ls h hl => ?_) 0 (Nat.zero_le _) (h.eq (congrArg (lay tc ad gm dz) rfl)) (lv_sub hl [0, 1, 5, 4, 3] rfl) rfl
    have h : Sx D (wA ad Ks s.heap.size) ad Ks (lay tc ad gm dz (mmM I d o m i)) s H locs := h
    have hl : lv_has ls 8 [(5, .int (nI i)), (4, .int (nI (mmG I d o m i))), (2, .int (nI o)), (1, .int (nI d)), (0, .ref (ad (30, 0, 0, 0)))] := hl
    refine lv_iload hx hb dX7_merge_58 (lv_at hl 0 rfl) ?_
    refine lv_aload_n hx hb dX7_merge_60 rfl (lv_at hl 4 rfl) ?_
    refine gf_Model_entries X h (hL (30, 0, 0, 0) ⟨by decide, rfl, rfl, rfl⟩) q798 (v := nI n) ((mm_30 (by decide) (by decide) _).trans hn) dX7_merge_61 ?_
    refine n_icmp_ge (tgt := 232) hx hb (by omega) (by omega) dX7_merge_64 (by decide) (fun c_64 => ?_) (fun c_64 => ?_)
    · skip
      have him : n = i := by omega
      subst him
      refine lv_bipush (v := nI 100) hx hb dX7_merge_232 (by decide) ?_
      refine lv_iload hx hb dX7_merge_234 (lv_at hl 1 rfl) ?_
      refine n_imul hx hb dX7_merge_236 ?_
      refine lv_aload_n hx hb dX7_merge_237 rfl (lv_at hl 4 rfl) ?_
      refine gf_Model_gained X h (hL (30, 0, 0, 0) ⟨by decide, rfl, rfl, rfl⟩) q811 (v := (mmM I d o m n) (30, 0, 0, 0) 3) rfl dX7_merge_238 ?_
      refine lv_iadd hx hb dX7_merge_241 ?_
      exact x_iret X h hr rfl rfl (fun _ _ => rfl) dX7_merge_242
    · skip
      refine lv_aload_n hx hb dX7_merge_67 rfl (lv_at hl 4 rfl) ?_
      refine lv_iload_n hx hb dX7_merge_68 rfl (lv_at hl 3 rfl) ?_
      refine lv_iload_n hx hb dX7_merge_69 rfl (lv_at hl 2 rfl) ?_
      refine lv_iload hx hb dX7_merge_70 (lv_at hl 0 rfl) ?_
      refine x_doneI X h (x_runV X h (k := (30, 0, 0, 0)) (m_X7_areShared (mmM I d o m i) hL d o i (by omega) (by omega) (by omega) _) F_X7_areShared q928 q930 q15 (hL (30, 0, 0, 0) ⟨by decide, rfl, rfl, rfl⟩) rfl rfl rfl (by decide) (by decide) ⟨Nat.le_refl _, Nat.le_refl _⟩ hl.1 (Nat.le_of_ble_eq_true rfl) dX7_merge_72 rfl) (fun H locs h => ?_)
      refine b_if_eq (tgt := 226) hx hb dX7_merge_75 (by decide) (fun c_75 => ?_) (fun c_75 => ?_)
      · skip
        have hcn : nI (mmG I d o m (i + 1)) = nI (mmG I d o m i) := by simp only [mmG, c_31, c_64, c_75, decide_true, decide_false, Bool.not_true, Bool.not_false, Bool.and_true, Bool.and_false, Bool.true_and, Bool.false_and, Bool.or_true, Bool.or_false, Bool.true_or, Bool.false_or, Bool.and_self, Bool.or_self, ↓reduceIte, Bool.false_eq_true, not_false_eq_true, not_true_eq_false] <;> rfl
        have hl : lv_has ls 8 [(5, .int (nI i)), (4, .int (nI (mmG I d o m (i + 1)))), (2, .int (nI o)), (1, .int (nI d)), (0, .ref (ad (30, 0, 0, 0)))] := by rw [hcn]; exact hl
        refine n_iinc (j := i) (n := 1) (lv' := [(5, .int (nI (i + 1))), (4, .int (nI (mmG I d o m (i + 1)))), (2, .int (nI o)), (1, .int (nI d)), (0, .ref (ad (30, 0, 0, 0)))]) hx hb dX7_merge_226 hl (k := 0) rfl (by decide) (by decide) rfl (fun ls hl => ?_)
        refine lv_goto (tgt := 58) hx hb dX7_merge_229 (by decide) ?_
        have hm : (mmM I d o m i) = (mmM I d o m (i + 1)) := by
          simp only [mmM, mmS, mm2, c_31, c_64, c_75, decide_true, decide_false, Bool.not_true, Bool.not_false, Bool.and_true, Bool.and_false, Bool.true_and, Bool.false_and, Bool.or_true, Bool.or_false, Bool.true_or, Bool.false_or, Bool.and_self, Bool.or_self, ↓reduceIte, Bool.false_eq_true, not_false_eq_true, not_true_eq_false]
        exact ih58 (i + 1) (by omega) (by omega) H locs ls (h.eq (congrArg (lay tc ad gm dz) hm)) (lv_sub hl [0, 1, 2, 3, 4] rfl)
      · skip
        refine lv_aload_n hx hb dX7_merge_78 rfl (lv_at hl 4 rfl) ?_
        refine gf_Model_knows X h (hL (30, 0, 0, 0) ⟨by decide, rfl, rfl, rfl⟩) q801 dX7_merge_79 ?_
        refine lv_iload_n hx hb dX7_merge_82 rfl (lv_at hl 3 rfl) ?_
        refine lv_iload hx hb dX7_merge_83 (lv_at hl 0 rfl) ?_
        refine x_doneI X h (x_runS X h (m_X7_pair (mmM I d o m i) d i _) F_X7_pair q867 q868 rfl (by decide) (by decide) ⟨Nat.le_refl _, Nat.le_refl _⟩ hl.1 (Nat.le_of_ble_eq_true rfl) dX7_merge_85 rfl) (fun H locs h => ?_)
        refine y_zald X h (fun _ => rfl) (by decide) (hL (34, 0, 0, 0) ⟨by decide, rfl, rfl, rfl⟩) (by omega) (v := (mmM I d o m i) (34, 0, 0, 0) (10 * d + i)) rfl dX7_merge_88 ?_
        refine lv_istore (lv' := [(6, .int ((mmM I d o m i) (34, 0, 0, 0) (10 * d + i))), (5, .int (nI i)), (4, .int (nI (mmG I d o m i))), (2, .int (nI o)), (1, .int (nI d)), (0, .ref (ad (30, 0, 0, 0)))]) hx hb dX7_merge_89 hl (by decide) rfl (fun ls hl => ?_)
        refine lv_aload_n hx hb dX7_merge_91 rfl (lv_at hl 5 rfl) ?_
        refine gf_Model_knows X h (hL (30, 0, 0, 0) ⟨by decide, rfl, rfl, rfl⟩) q801 dX7_merge_92 ?_
        refine lv_iload_n hx hb dX7_merge_95 rfl (lv_at hl 3 rfl) ?_
        refine lv_iload hx hb dX7_merge_96 (lv_at hl 1 rfl) ?_
        refine x_doneI X h (x_runS X h (m_X7_pair (mmM I d o m i) o i _) F_X7_pair q867 q868 rfl (by decide) (by decide) ⟨Nat.le_refl _, Nat.le_refl _⟩ hl.1 (Nat.le_of_ble_eq_true rfl) dX7_merge_98 rfl) (fun H locs h => ?_)
        refine y_zald X h (fun _ => rfl) (by decide) (hL (34, 0, 0, 0) ⟨by decide, rfl, rfl, rfl⟩) (by omega) (v := (mmM I d o m i) (34, 0, 0, 0) (10 * o + i)) rfl dX7_merge_101 ?_
        refine lv_istore (lv' := [(7, .int ((mmM I d o m i) (34, 0, 0, 0) (10 * o + i))), (6, .int ((mmM I d o m i) (34, 0, 0, 0) (10 * d + i))), (5, .int (nI i)), (4, .int (nI (mmG I d o m i))), (2, .int (nI o)), (1, .int (nI d)), (0, .ref (ad (30, 0, 0, 0)))]) hx hb dX7_merge_102 hl (by decide) rfl (fun ls hl => ?_)
        refine y_join (D := D) (A := wA ad Ks s.heap.size) (ad := ad) (Ks := Ks) (nL := 8) 190 (fun _ : Unit => lay tc ad gm dz (mm1 (mmM I d o m i) d o i m)) (fun _ => [(5, .int (nI i)), (4, .int (nI (mmG I d o m (i + 1)))), (2, .int (nI o)), (1, .int (nI d)), (0, .ref (ad (30, 0, 0, 0)))]) (fun _ => []) (fun _ => True) (fun jn190 => ?_) (fun _ _ H locs ls h hl => ?_)
        · skip
          refine lv_iload hx hb dX7_merge_104 (lv_at hl 1 rfl) ?_
          refine lv_if_eq (tgt := 138) hx hb dX7_merge_106 (by decide) (fun c_106 => ?_) (fun c_106 => ?_)
          · skip
            refine lv_iload hx hb dX7_merge_138 (lv_at hl 0 rfl) ?_
            refine lv_if_eq (tgt := 172) hx hb dX7_merge_140 (by decide) (fun c_140 => ?_) (fun c_140 => ?_)
            · skip
              refine lv_iload hx hb dX7_merge_172 (lv_at hl 1 rfl) ?_
              refine lv_if_ne (tgt := 182) hx hb dX7_merge_174 (by decide) (fun c => absurd c_106 c) (fun _ => ?_)
              refine lv_iload hx hb dX7_merge_177 (lv_at hl 0 rfl) ?_
              refine lv_if_eq (tgt := 190) hx hb dX7_merge_179 (by decide) (fun _ => ?_) (fun c => absurd c_140 c)
              have hcn : nI (mmG I d o m (i + 1)) = nI (mmG I d o m i) := by simp only [mmG, mm1G, c_31, c_64, c_75, eq_true c_106, eq_true c_140, decide_true, decide_false, Bool.not_true, Bool.not_false, Bool.and_true, Bool.and_false, Bool.true_and, Bool.false_and, Bool.or_true, Bool.or_false, Bool.true_or, Bool.false_or, Bool.and_self, Bool.or_self, ↓reduceIte, Bool.false_eq_true, not_false_eq_true, not_true_eq_false] <;> rfl
              have hl : lv_has ls 8 [(7, .int ((mmM I d o m i) (34, 0, 0, 0) (10 * o + i))), (6, .int ((mmM I d o m i) (34, 0, 0, 0) (10 * d + i))), (5, .int (nI i)), (4, .int (nI (mmG I d o m (i + 1)))), (2, .int (nI o)), (1, .int (nI d)), (0, .ref (ad (30, 0, 0, 0)))] := by rw [hcn]; exact hl
              have hm : (mmM I d o m i) = (mm1 (mmM I d o m i) d o i m) := by
                simp only [mm1, c_31, c_64, c_75, eq_true c_106, eq_true c_140, decide_true, decide_false, Bool.not_true, Bool.not_false, Bool.and_true, Bool.and_false, Bool.true_and, Bool.false_and, Bool.or_true, Bool.or_false, Bool.true_or, Bool.false_or, Bool.and_self, Bool.or_self, ↓reduceIte, Bool.false_eq_true, not_false_eq_true, not_true_eq_false]
              have h := h.eq (congrArg (lay tc ad gm dz) hm)
              exact jn190 () trivial _ _ _ (h.eq (congrArg (lay tc ad gm dz) rfl)) (lv_sub hl [2, 3, 4, 5, 6] rfl)
            · skip
              refine lv_iload hx hb dX7_merge_143 (lv_at hl 1 rfl) ?_
              refine lv_if_ne (tgt := 172) hx hb dX7_merge_145 (by decide) (fun c => absurd c_106 c) (fun _ => ?_)
              refine lv_aload_n hx hb dX7_merge_148 rfl (lv_at hl 6 rfl) ?_
              refine lv_iload_n hx hb dX7_merge_149 rfl (lv_at hl 5 rfl) ?_
              refine lv_iload_n hx hb dX7_merge_150 rfl (lv_at hl 4 rfl) ?_
              refine lv_iload hx hb dX7_merge_151 (lv_at hl 2 rfl) ?_
              refine x_doneI X h (x_runV X h (k := (30, 0, 0, 0)) (m_X7_isOld (mmM I d o m i) hL d o i (by omega) (by omega) (by omega) _) F_X7_isOld q932 q934 q16 (hL (30, 0, 0, 0) ⟨by decide, rfl, rfl, rfl⟩) rfl rfl rfl (by decide) (by decide) ⟨Nat.le_refl _, Nat.le_refl _⟩ hl.1 (Nat.le_of_ble_eq_true rfl) dX7_merge_153 rfl) (fun H locs h => ?_)
              refine b_if_eq (tgt := 172) hx hb dX7_merge_156 (by decide) (fun c_156 => ?_) (fun c_156 => ?_)
              · skip
                refine lv_iload hx hb dX7_merge_172 (lv_at hl 1 rfl) ?_
                refine lv_if_ne (tgt := 182) hx hb dX7_merge_174 (by decide) (fun c => absurd c_106 c) (fun _ => ?_)
                refine lv_iload hx hb dX7_merge_177 (lv_at hl 0 rfl) ?_
                refine lv_if_eq (tgt := 190) hx hb dX7_merge_179 (by decide) (fun c => absurd c c_140) (fun _ => ?_)
                refine lv_aload_n hx hb dX7_merge_182 rfl (lv_at hl 6 rfl) ?_
                refine lv_iload_n hx hb dX7_merge_183 rfl (lv_at hl 5 rfl) ?_
                refine lv_iload_n hx hb dX7_merge_184 rfl (lv_at hl 4 rfl) ?_
                refine lv_iload hx hb dX7_merge_185 (lv_at hl 2 rfl) ?_
                refine x_doneV X h (x_runV X h (k := (30, 0, 0, 0)) (m_X7_joins (mmM I d o m i) hL d o i (by omega) (by omega) (by omega) m ((mm_30 (by decide) (by decide) _).trans hmm) hm5 _) F_X7_joins q943 q945 q18 (hL (30, 0, 0, 0) ⟨by decide, rfl, rfl, rfl⟩) rfl rfl rfl (by decide) (by decide) ⟨Nat.le_refl _, Nat.le_refl _⟩ hl.1 (Nat.le_of_ble_eq_true rfl) dX7_merge_187 rfl) (fun H locs h => ?_)
                have hcn : nI (mmG I d o m (i + 1)) = nI (mmG I d o m i) := by simp only [mmG, mm1G, c_31, c_64, c_75, eq_true c_106, c_140, c_156, decide_true, decide_false, Bool.not_true, Bool.not_false, Bool.and_true, Bool.and_false, Bool.true_and, Bool.false_and, Bool.or_true, Bool.or_false, Bool.true_or, Bool.false_or, Bool.and_self, Bool.or_self, ↓reduceIte, Bool.false_eq_true, not_false_eq_true, not_true_eq_false] <;> rfl
                have hl : lv_has ls 8 [(7, .int ((mmM I d o m i) (34, 0, 0, 0) (10 * o + i))), (6, .int ((mmM I d o m i) (34, 0, 0, 0) (10 * d + i))), (5, .int (nI i)), (4, .int (nI (mmG I d o m (i + 1)))), (2, .int (nI o)), (1, .int (nI d)), (0, .ref (ad (30, 0, 0, 0)))] := by rw [hcn]; exact hl
                have hm : (joiM (mmM I d o m i) d o i m) = (mm1 (mmM I d o m i) d o i m) := by
                  simp only [mm1, c_31, c_64, c_75, eq_true c_106, c_140, c_156, decide_true, decide_false, Bool.not_true, Bool.not_false, Bool.and_true, Bool.and_false, Bool.true_and, Bool.false_and, Bool.or_true, Bool.or_false, Bool.true_or, Bool.false_or, Bool.and_self, Bool.or_self, ↓reduceIte, Bool.false_eq_true, not_false_eq_true, not_true_eq_false]
                have h := h.eq (congrArg (lay tc ad gm dz) hm)
                exact jn190 () trivial _ _ _ (h.eq (congrArg (lay tc ad gm dz) rfl)) (lv_sub hl [2, 3, 4, 5, 6] rfl)
              · skip
                refine lv_aload_n hx hb dX7_merge_159 rfl (lv_at hl 6 rfl) ?_
                refine lv_iload_n hx hb dX7_merge_160 rfl (lv_at hl 4 rfl) ?_
                refine lv_iload hx hb dX7_merge_161 (lv_at hl 2 rfl) ?_
                refine x_doneV X h (x_runV X h (k := (30, 0, 0, 0)) (m_X7_forgets (mmM I d o m i) hL o i (by omega) (by omega) m ((mm_30 (by decide) (by decide) _).trans hmm) hm5 _) F_X7_forgets q936 q938 q17 (hL (30, 0, 0, 0) ⟨by decide, rfl, rfl, rfl⟩) rfl rfl rfl (by decide) (by decide) ⟨Nat.le_refl _, Nat.le_refl _⟩ hl.1 (Nat.le_of_ble_eq_true rfl) dX7_merge_163 rfl) (fun H locs h => ?_)
                refine n_iinc (j := (mmG I d o m i)) (n := 1) (lv' := [(4, .int (nI ((mmG I d o m i) + 1))), (7, .int ((mmM I d o m i) (34, 0, 0, 0) (10 * o + i))), (6, .int ((mmM I d o m i) (34, 0, 0, 0) (10 * d + i))), (5, .int (nI i)), (2, .int (nI o)), (1, .int (nI d)), (0, .ref (ad (30, 0, 0, 0)))]) hx hb dX7_merge_166 hl (k := 3) rfl (by decide) (by decide) rfl (fun ls hl => ?_)
                refine lv_goto (tgt := 190) hx hb dX7_merge_169 (by decide) ?_
                have hcn : nI (mmG I d o m (i + 1)) = nI ((mmG I d o m i) + 1) := by simp only [mmG, mm1G, c_31, c_64, c_75, eq_true c_106, c_140, c_156, decide_true, decide_false, Bool.not_true, Bool.not_false, Bool.and_true, Bool.and_false, Bool.true_and, Bool.false_and, Bool.or_true, Bool.or_false, Bool.true_or, Bool.false_or, Bool.and_self, Bool.or_self, ↓reduceIte, Bool.false_eq_true, not_false_eq_true, not_true_eq_false] <;> rfl
                have hl : lv_has ls 8 [(4, .int (nI (mmG I d o m (i + 1)))), (7, .int ((mmM I d o m i) (34, 0, 0, 0) (10 * o + i))), (6, .int ((mmM I d o m i) (34, 0, 0, 0) (10 * d + i))), (5, .int (nI i)), (2, .int (nI o)), (1, .int (nI d)), (0, .ref (ad (30, 0, 0, 0)))] := by rw [hcn]; exact hl
                have hm : (mforM (mmM I d o m i) o i m) = (mm1 (mmM I d o m i) d o i m) := by
                  simp only [mm1, c_31, c_64, c_75, eq_true c_106, c_140, c_156, decide_true, decide_false, Bool.not_true, Bool.not_false, Bool.and_true, Bool.and_false, Bool.true_and, Bool.false_and, Bool.or_true, Bool.or_false, Bool.true_or, Bool.false_or, Bool.and_self, Bool.or_self, ↓reduceIte, Bool.false_eq_true, not_false_eq_true, not_true_eq_false]
                have h := h.eq (congrArg (lay tc ad gm dz) hm)
                exact jn190 () trivial _ _ _ (h.eq (congrArg (lay tc ad gm dz) rfl)) (lv_sub hl [3, 0, 4, 5, 6] rfl)
          · skip
            refine lv_iload hx hb dX7_merge_109 (lv_at hl 0 rfl) ?_
            refine lv_if_ne (tgt := 138) hx hb dX7_merge_111 (by decide) (fun c_111 => ?_) (fun c_111 => ?_)
            · skip
              refine lv_iload hx hb dX7_merge_138 (lv_at hl 0 rfl) ?_
              refine lv_if_eq (tgt := 172) hx hb dX7_merge_140 (by decide) (fun c => absurd c c_111) (fun _ => ?_)
              refine lv_iload hx hb dX7_merge_143 (lv_at hl 1 rfl) ?_
              refine lv_if_ne (tgt := 172) hx hb dX7_merge_145 (by decide) (fun _ => ?_) (fun c => absurd c c_106)
              refine lv_iload hx hb dX7_merge_172 (lv_at hl 1 rfl) ?_
              refine lv_if_ne (tgt := 182) hx hb dX7_merge_174 (by decide) (fun _ => ?_) (fun c => absurd c c_106)
              refine lv_aload_n hx hb dX7_merge_182 rfl (lv_at hl 6 rfl) ?_
              refine lv_iload_n hx hb dX7_merge_183 rfl (lv_at hl 5 rfl) ?_
              refine lv_iload_n hx hb dX7_merge_184 rfl (lv_at hl 4 rfl) ?_
              refine lv_iload hx hb dX7_merge_185 (lv_at hl 2 rfl) ?_
              refine x_doneV X h (x_runV X h (k := (30, 0, 0, 0)) (m_X7_joins (mmM I d o m i) hL d o i (by omega) (by omega) (by omega) m ((mm_30 (by decide) (by decide) _).trans hmm) hm5 _) F_X7_joins q943 q945 q18 (hL (30, 0, 0, 0) ⟨by decide, rfl, rfl, rfl⟩) rfl rfl rfl (by decide) (by decide) ⟨Nat.le_refl _, Nat.le_refl _⟩ hl.1 (Nat.le_of_ble_eq_true rfl) dX7_merge_187 rfl) (fun H locs h => ?_)
              have hcn : nI (mmG I d o m (i + 1)) = nI (mmG I d o m i) := by simp only [mmG, mm1G, c_31, c_64, c_75, c_106, c_111, decide_true, decide_false, Bool.not_true, Bool.not_false, Bool.and_true, Bool.and_false, Bool.true_and, Bool.false_and, Bool.or_true, Bool.or_false, Bool.true_or, Bool.false_or, Bool.and_self, Bool.or_self, ↓reduceIte, Bool.false_eq_true, not_false_eq_true, not_true_eq_false] <;> rfl
              have hl : lv_has ls 8 [(7, .int ((mmM I d o m i) (34, 0, 0, 0) (10 * o + i))), (6, .int ((mmM I d o m i) (34, 0, 0, 0) (10 * d + i))), (5, .int (nI i)), (4, .int (nI (mmG I d o m (i + 1)))), (2, .int (nI o)), (1, .int (nI d)), (0, .ref (ad (30, 0, 0, 0)))] := by rw [hcn]; exact hl
              have hm : (joiM (mmM I d o m i) d o i m) = (mm1 (mmM I d o m i) d o i m) := by
                simp only [mm1, c_31, c_64, c_75, c_106, c_111, decide_true, decide_false, Bool.not_true, Bool.not_false, Bool.and_true, Bool.and_false, Bool.true_and, Bool.false_and, Bool.or_true, Bool.or_false, Bool.true_or, Bool.false_or, Bool.and_self, Bool.or_self, ↓reduceIte, Bool.false_eq_true, not_false_eq_true, not_true_eq_false]
              have h := h.eq (congrArg (lay tc ad gm dz) hm)
              exact jn190 () trivial _ _ _ (h.eq (congrArg (lay tc ad gm dz) rfl)) (lv_sub hl [2, 3, 4, 5, 6] rfl)
            · skip
              refine lv_aload_n hx hb dX7_merge_114 rfl (lv_at hl 6 rfl) ?_
              refine lv_iload_n hx hb dX7_merge_115 rfl (lv_at hl 4 rfl) ?_
              refine lv_iload_n hx hb dX7_merge_116 rfl (lv_at hl 5 rfl) ?_
              refine lv_iload hx hb dX7_merge_117 (lv_at hl 2 rfl) ?_
              refine x_doneI X h (x_runV X h (k := (30, 0, 0, 0)) (m_X7_isOld (mmM I d o m i) hL o d i (by omega) (by omega) (by omega) _) F_X7_isOld q932 q934 q16 (hL (30, 0, 0, 0) ⟨by decide, rfl, rfl, rfl⟩) rfl rfl rfl (by decide) (by decide) ⟨Nat.le_refl _, Nat.le_refl _⟩ hl.1 (Nat.le_of_ble_eq_true rfl) dX7_merge_119 rfl) (fun H locs h => ?_)
              refine b_if_eq (tgt := 138) hx hb dX7_merge_122 (by decide) (fun c_122 => ?_) (fun c_122 => ?_)
              · skip
                refine lv_iload hx hb dX7_merge_138 (lv_at hl 0 rfl) ?_
                refine lv_if_eq (tgt := 172) hx hb dX7_merge_140 (by decide) (fun _ => ?_) (fun c => absurd c_111 c)
                refine lv_iload hx hb dX7_merge_172 (lv_at hl 1 rfl) ?_
                refine lv_if_ne (tgt := 182) hx hb dX7_merge_174 (by decide) (fun _ => ?_) (fun c => absurd c c_106)
                refine lv_aload_n hx hb dX7_merge_182 rfl (lv_at hl 6 rfl) ?_
                refine lv_iload_n hx hb dX7_merge_183 rfl (lv_at hl 5 rfl) ?_
                refine lv_iload_n hx hb dX7_merge_184 rfl (lv_at hl 4 rfl) ?_
                refine lv_iload hx hb dX7_merge_185 (lv_at hl 2 rfl) ?_
                refine x_doneV X h (x_runV X h (k := (30, 0, 0, 0)) (m_X7_joins (mmM I d o m i) hL d o i (by omega) (by omega) (by omega) m ((mm_30 (by decide) (by decide) _).trans hmm) hm5 _) F_X7_joins q943 q945 q18 (hL (30, 0, 0, 0) ⟨by decide, rfl, rfl, rfl⟩) rfl rfl rfl (by decide) (by decide) ⟨Nat.le_refl _, Nat.le_refl _⟩ hl.1 (Nat.le_of_ble_eq_true rfl) dX7_merge_187 rfl) (fun H locs h => ?_)
                have hcn : nI (mmG I d o m (i + 1)) = nI (mmG I d o m i) := by simp only [mmG, mm1G, c_31, c_64, c_75, c_106, eq_true c_111, c_122, decide_true, decide_false, Bool.not_true, Bool.not_false, Bool.and_true, Bool.and_false, Bool.true_and, Bool.false_and, Bool.or_true, Bool.or_false, Bool.true_or, Bool.false_or, Bool.and_self, Bool.or_self, ↓reduceIte, Bool.false_eq_true, not_false_eq_true, not_true_eq_false] <;> rfl
                have hl : lv_has ls 8 [(7, .int ((mmM I d o m i) (34, 0, 0, 0) (10 * o + i))), (6, .int ((mmM I d o m i) (34, 0, 0, 0) (10 * d + i))), (5, .int (nI i)), (4, .int (nI (mmG I d o m (i + 1)))), (2, .int (nI o)), (1, .int (nI d)), (0, .ref (ad (30, 0, 0, 0)))] := by rw [hcn]; exact hl
                have hm : (joiM (mmM I d o m i) d o i m) = (mm1 (mmM I d o m i) d o i m) := by
                  simp only [mm1, c_31, c_64, c_75, c_106, eq_true c_111, c_122, decide_true, decide_false, Bool.not_true, Bool.not_false, Bool.and_true, Bool.and_false, Bool.true_and, Bool.false_and, Bool.or_true, Bool.or_false, Bool.true_or, Bool.false_or, Bool.and_self, Bool.or_self, ↓reduceIte, Bool.false_eq_true, not_false_eq_true, not_true_eq_false]
                have h := h.eq (congrArg (lay tc ad gm dz) hm)
                exact jn190 () trivial _ _ _ (h.eq (congrArg (lay tc ad gm dz) rfl)) (lv_sub hl [2, 3, 4, 5, 6] rfl)
              · skip
                refine lv_aload_n hx hb dX7_merge_125 rfl (lv_at hl 6 rfl) ?_
                refine lv_iload_n hx hb dX7_merge_126 rfl (lv_at hl 5 rfl) ?_
                refine lv_iload hx hb dX7_merge_127 (lv_at hl 2 rfl) ?_
                refine x_doneV X h (x_runV X h (k := (30, 0, 0, 0)) (m_X7_forgets (mmM I d o m i) hL d i (by omega) (by omega) m ((mm_30 (by decide) (by decide) _).trans hmm) hm5 _) F_X7_forgets q936 q938 q17 (hL (30, 0, 0, 0) ⟨by decide, rfl, rfl, rfl⟩) rfl rfl rfl (by decide) (by decide) ⟨Nat.le_refl _, Nat.le_refl _⟩ hl.1 (Nat.le_of_ble_eq_true rfl) dX7_merge_129 rfl) (fun H locs h => ?_)
                refine n_iinc (j := (mmG I d o m i)) (n := 1) (lv' := [(4, .int (nI ((mmG I d o m i) + 1))), (7, .int ((mmM I d o m i) (34, 0, 0, 0) (10 * o + i))), (6, .int ((mmM I d o m i) (34, 0, 0, 0) (10 * d + i))), (5, .int (nI i)), (2, .int (nI o)), (1, .int (nI d)), (0, .ref (ad (30, 0, 0, 0)))]) hx hb dX7_merge_132 hl (k := 3) rfl (by decide) (by decide) rfl (fun ls hl => ?_)
                refine lv_goto (tgt := 190) hx hb dX7_merge_135 (by decide) ?_
                have hcn : nI (mmG I d o m (i + 1)) = nI ((mmG I d o m i) + 1) := by simp only [mmG, mm1G, c_31, c_64, c_75, c_106, eq_true c_111, c_122, decide_true, decide_false, Bool.not_true, Bool.not_false, Bool.and_true, Bool.and_false, Bool.true_and, Bool.false_and, Bool.or_true, Bool.or_false, Bool.true_or, Bool.false_or, Bool.and_self, Bool.or_self, ↓reduceIte, Bool.false_eq_true, not_false_eq_true, not_true_eq_false] <;> rfl
                have hl : lv_has ls 8 [(4, .int (nI (mmG I d o m (i + 1)))), (7, .int ((mmM I d o m i) (34, 0, 0, 0) (10 * o + i))), (6, .int ((mmM I d o m i) (34, 0, 0, 0) (10 * d + i))), (5, .int (nI i)), (2, .int (nI o)), (1, .int (nI d)), (0, .ref (ad (30, 0, 0, 0)))] := by rw [hcn]; exact hl
                have hm : (mforM (mmM I d o m i) d i m) = (mm1 (mmM I d o m i) d o i m) := by
                  simp only [mm1, c_31, c_64, c_75, c_106, eq_true c_111, c_122, decide_true, decide_false, Bool.not_true, Bool.not_false, Bool.and_true, Bool.and_false, Bool.true_and, Bool.false_and, Bool.or_true, Bool.or_false, Bool.true_or, Bool.false_or, Bool.and_self, Bool.or_self, ↓reduceIte, Bool.false_eq_true, not_false_eq_true, not_true_eq_false]
                have h := h.eq (congrArg (lay tc ad gm dz) hm)
                exact jn190 () trivial _ _ _ (h.eq (congrArg (lay tc ad gm dz) rfl)) (lv_sub hl [3, 0, 4, 5, 6] rfl)
        · have h : Sx D (wA ad Ks s.heap.size) ad Ks (lay tc ad gm dz (mm1 (mmM I d o m i) d o i m)) s H locs := h
          have hl : lv_has ls 8 [(5, .int (nI i)), (4, .int (nI (mmG I d o m (i + 1)))), (2, .int (nI o)), (1, .int (nI d)), (0, .ref (ad (30, 0, 0, 0)))] := hl
          refine lv_aload_n hx hb dX7_merge_190 rfl (lv_at hl 4 rfl) ?_
          refine gf_Model_knows X h (hL (30, 0, 0, 0) ⟨by decide, rfl, rfl, rfl⟩) q801 dX7_merge_191 ?_
          refine lv_iload_n hx hb dX7_merge_194 rfl (lv_at hl 3 rfl) ?_
          refine lv_iload hx hb dX7_merge_195 (lv_at hl 0 rfl) ?_
          refine x_doneI X h (x_runS X h (m_X7_pair (mm1 (mmM I d o m i) d o i m) d i _) F_X7_pair q867 q868 rfl (by decide) (by decide) ⟨Nat.le_refl _, Nat.le_refl _⟩ hl.1 (Nat.le_of_ble_eq_true rfl) dX7_merge_197 rfl) (fun H locs h => ?_)
          refine y_zald X h (fun _ => rfl) (by decide) (hL (34, 0, 0, 0) ⟨by decide, rfl, rfl, rfl⟩) (by omega) (v := (mm1 (mmM I d o m i) d o i m) (34, 0, 0, 0) (10 * d + i)) rfl dX7_merge_200 ?_
          refine lv_if_ne (tgt := 226) hx hb dX7_merge_201 (by decide) (fun c_201 => ?_) (fun c_201 => ?_)
          · skip
            refine n_iinc (j := i) (n := 1) (lv' := [(5, .int (nI (i + 1))), (4, .int (nI (mmG I d o m (i + 1)))), (2, .int (nI o)), (1, .int (nI d)), (0, .ref (ad (30, 0, 0, 0)))]) hx hb dX7_merge_226 hl (k := 0) rfl (by decide) (by decide) rfl (fun ls hl => ?_)
            refine lv_goto (tgt := 58) hx hb dX7_merge_229 (by decide) ?_
            have hm : (mm1 (mmM I d o m i) d o i m) = (mmM I d o m (i + 1)) := by
              simp only [mmM, mmS, mm2, c_31, c_64, c_75, c_201, decide_true, decide_false, Bool.not_true, Bool.not_false, Bool.and_true, Bool.and_false, Bool.true_and, Bool.false_and, Bool.or_true, Bool.or_false, Bool.true_or, Bool.false_or, Bool.and_self, Bool.or_self, ↓reduceIte, Bool.false_eq_true, not_false_eq_true, not_true_eq_false]
            exact ih58 (i + 1) (by omega) (by omega) H locs ls (h.eq (congrArg (lay tc ad gm dz) hm)) (lv_sub hl [0, 1, 2, 3, 4] rfl)
          · skip
            refine lv_aload_n hx hb dX7_merge_204 rfl (lv_at hl 4 rfl) ?_
            refine gf_Model_knows X h (hL (30, 0, 0, 0) ⟨by decide, rfl, rfl, rfl⟩) q801 dX7_merge_205 ?_
            refine lv_iload_n hx hb dX7_merge_208 rfl (lv_at hl 2 rfl) ?_
            refine lv_iload hx hb dX7_merge_209 (lv_at hl 0 rfl) ?_
            refine x_doneI X h (x_runS X h (m_X7_pair (mm1 (mmM I d o m i) d o i m) o i _) F_X7_pair q867 q868 rfl (by decide) (by decide) ⟨Nat.le_refl _, Nat.le_refl _⟩ hl.1 (Nat.le_of_ble_eq_true rfl) dX7_merge_211 rfl) (fun H locs h => ?_)
            refine y_zald X h (fun _ => rfl) (by decide) (hL (34, 0, 0, 0) ⟨by decide, rfl, rfl, rfl⟩) (by omega) (v := (mm1 (mmM I d o m i) d o i m) (34, 0, 0, 0) (10 * o + i)) rfl dX7_merge_214 ?_
            refine lv_if_ne (tgt := 226) hx hb dX7_merge_215 (by decide) (fun c_215 => ?_) (fun c_215 => ?_)
            · skip
              refine n_iinc (j := i) (n := 1) (lv' := [(5, .int (nI (i + 1))), (4, .int (nI (mmG I d o m (i + 1)))), (2, .int (nI o)), (1, .int (nI d)), (0, .ref (ad (30, 0, 0, 0)))]) hx hb dX7_merge_226 hl (k := 0) rfl (by decide) (by decide) rfl (fun ls hl => ?_)
              refine lv_goto (tgt := 58) hx hb dX7_merge_229 (by decide) ?_
              have hm : (mm1 (mmM I d o m i) d o i m) = (mmM I d o m (i + 1)) := by
                simp only [mmM, mmS, mm2, c_31, c_64, c_75, eq_true c_201, c_215, decide_true, decide_false, Bool.not_true, Bool.not_false, Bool.and_true, Bool.and_false, Bool.true_and, Bool.false_and, Bool.or_true, Bool.or_false, Bool.true_or, Bool.false_or, Bool.and_self, Bool.or_self, ↓reduceIte, Bool.false_eq_true, not_false_eq_true, not_true_eq_false]
              exact ih58 (i + 1) (by omega) (by omega) H locs ls (h.eq (congrArg (lay tc ad gm dz) hm)) (lv_sub hl [0, 1, 2, 3, 4] rfl)
            · skip
              refine lv_aload_n hx hb dX7_merge_218 rfl (lv_at hl 4 rfl) ?_
              refine lv_iload_n hx hb dX7_merge_219 rfl (lv_at hl 3 rfl) ?_
              refine lv_iload_n hx hb dX7_merge_220 rfl (lv_at hl 2 rfl) ?_
              refine lv_iload hx hb dX7_merge_221 (lv_at hl 0 rfl) ?_
              refine x_doneV X h (x_runV X h (k := (30, 0, 0, 0)) (m_X7_notes (mm1 (mmM I d o m i) d o i m) hL d o i (by omega) (by omega) (by omega) hne _) F_X7_notes q955 q957 q21 (hL (30, 0, 0, 0) ⟨by decide, rfl, rfl, rfl⟩) rfl rfl rfl (by decide) (by decide) ⟨Nat.le_refl _, Nat.le_refl _⟩ hl.1 (Nat.le_of_ble_eq_true rfl) dX7_merge_223 rfl) (fun H locs h => ?_)
              refine n_iinc (j := i) (n := 1) (lv' := [(5, .int (nI (i + 1))), (4, .int (nI (mmG I d o m (i + 1)))), (2, .int (nI o)), (1, .int (nI d)), (0, .ref (ad (30, 0, 0, 0)))]) hx hb dX7_merge_226 hl (k := 0) rfl (by decide) (by decide) rfl (fun ls hl => ?_)
              refine lv_goto (tgt := 58) hx hb dX7_merge_229 (by decide) ?_
              have hm : (notM (mm1 (mmM I d o m i) d o i m) d o i) = (mmM I d o m (i + 1)) := by
                simp only [mmM, mmS, mm2, c_31, c_64, c_75, eq_true c_201, eq_true c_215, decide_true, decide_false, Bool.not_true, Bool.not_false, Bool.and_true, Bool.and_false, Bool.true_and, Bool.false_and, Bool.or_true, Bool.or_false, Bool.true_or, Bool.false_or, Bool.and_self, Bool.or_self, ↓reduceIte, Bool.false_eq_true, not_false_eq_true, not_true_eq_false]
              exact ih58 (i + 1) (by omega) (by omega) H locs ls (h.eq (congrArg (lay tc ad gm dz) hm)) (lv_sub hl [0, 1, 2, 3, 4] rfl)
  · skip
    exact absurd c_31 hne

set_option maxHeartbeats 4000000 in
set_option maxRecDepth 100000 in
theorem m_X7_pass_1 {l : Launch} {D : va_G} {tc : TC} {dz : Nat} {ad : KN → Nat} {Ks : List KN} {gm : GM} (I : Mem) (hL : LV gm Ks) (w : Int32) (h0 : inR w (nI 1) (nI 24) = false) : MI l yX7_pass cX7_pass 5 (Option.some ClassFile.FieldType.int) 1 D tc dz ad Ks (lay tc ad gm dz I) [.ref (ad (30, 0, 0, 0)), .int w] (nI 0) (lay tc ad gm dz (thM I 1)) := by
  intro sz
  refine x_ofW (by decide +kernel) (Nat.le_of_ble_eq_true rfl) (fun pp ee s mm bel meth cd ls X hr hin hz h hl => ?_)
  subst hz
  obtain ⟨hx, hb, hmaxL, hown, hts⟩ := id X.1
  have hl : lv_has ls 5 [(0, .ref (ad (30, 0, 0, 0))), (1, .int w)] := hl
  refine lv_aload_n hx hb dX7_pass_0 rfl (lv_at hl 0 rfl) ?_
  refine lv_iload_n hx hb dX7_pass_1 rfl (lv_at hl 1 rfl) ?_
  refine lv_iconst (v := nI 1) hx hb dX7_pass_2 (by decide) ?_
  refine lv_bipush (v := nI 24) hx hb dX7_pass_3 (by decide) ?_
  refine x_doneI X h (x_runS X h (m_X7_isIn I w (nI 1) (nI 24) _) F_X7_isIn q860 q861 rfl (by decide) (by decide) ⟨Nat.le_refl _, Nat.le_refl _⟩ hl.1 (Nat.le_of_ble_eq_true rfl) dX7_pass_5 rfl) (fun H locs h => ?_)
  refine b_if_eq (tgt := 15) hx hb dX7_pass_8 (by decide) (fun _ => ?_) (fun c => by rw [h0] at c; cases c)
  refine lv_iconst (v := nI 1) hx hb dX7_pass_15 (by decide) ?_
  refine x_doneI X h (x_runV X h (k := (30, 0, 0, 0)) (m_X7_fails1 I hL _) F_X7_fails q863 q865 q5 (hL (30, 0, 0, 0) ⟨by decide, rfl, rfl, rfl⟩) rfl rfl rfl (by decide) (by decide) ⟨Nat.le_refl _, Nat.le_refl _⟩ hl.1 (Nat.le_of_ble_eq_true rfl) dX7_pass_16 rfl) (fun H locs h => ?_)
  refine b_if_eq (tgt := 24) hx hb dX7_pass_19 (by decide) (fun c => (Bool.noConfusion c)) (fun _ => ?_)
  refine lv_iconst (v := nI 0) hx hb dX7_pass_22 (by decide) ?_
  exact x_iret X h hr rfl rfl (fun _ _ => rfl) dX7_pass_23

set_option maxHeartbeats 4000000 in
set_option maxRecDepth 100000 in
theorem m_X7_pass_0 {l : Launch} {D : va_G} {tc : TC} {dz : Nat} {ad : KN → Nat} {Ks : List KN} {gm : GM} (I : Mem) (hL : LV gm Ks) (n : Nat) (hn : I (30, 0, 0, 0) 1 = nI n) (hn10 : n ≤ 10) (m : Nat) (hmm : I (30, 0, 0, 0) 2 = nI m) (hm5 : m ≤ 1000) (w : Int32) (h0 : inR w (nI 1) (nI 24) = true) : MI l yX7_pass cX7_pass 5 (Option.some ClassFile.FieldType.int) 4 D tc dz ad Ks (lay tc ad gm dz I) [.ref (ad (30, 0, 0, 0)), .int w] (nI (mpDn I w n m 6)) (lay tc ad gm dz (mpD I w n m 6)) := by
  intro sz
  refine x_ofW (by decide +kernel) (Nat.le_of_ble_eq_true rfl) (fun pp ee s mm bel meth cd ls X hr hin hz h hl => ?_)
  subst hz
  obtain ⟨hx, hb, hmaxL, hown, hts⟩ := id X.1
  have hl : lv_has ls 5 [(0, .ref (ad (30, 0, 0, 0))), (1, .int w)] := hl
  refine lv_aload_n hx hb dX7_pass_0 rfl (lv_at hl 0 rfl) ?_
  refine lv_iload_n hx hb dX7_pass_1 rfl (lv_at hl 1 rfl) ?_
  refine lv_iconst (v := nI 1) hx hb dX7_pass_2 (by decide) ?_
  refine lv_bipush (v := nI 24) hx hb dX7_pass_3 (by decide) ?_
  refine x_doneI X h (x_runS X h (m_X7_isIn I w (nI 1) (nI 24) _) F_X7_isIn q860 q861 rfl (by decide) (by decide) ⟨Nat.le_refl _, Nat.le_refl _⟩ hl.1 (Nat.le_of_ble_eq_true rfl) dX7_pass_5 rfl) (fun H locs h => ?_)
  refine b_if_eq (tgt := 15) hx hb dX7_pass_8 (by decide) (fun c => by rw [h0] at c; cases c) (fun _ => ?_)
  refine lv_iconst (v := nI 0) hx hb dX7_pass_11 (by decide) ?_
  refine lv_goto (tgt := 16) hx hb dX7_pass_12 (by decide) ?_
  refine x_doneI X h (x_runV X h (k := (30, 0, 0, 0)) (m_X7_fails0 I hL _) F_X7_fails q863 q865 q5 (hL (30, 0, 0, 0) ⟨by decide, rfl, rfl, rfl⟩) rfl rfl rfl (by decide) (by decide) ⟨Nat.le_refl _, Nat.le_refl _⟩ hl.1 (Nat.le_of_ble_eq_true rfl) dX7_pass_16 rfl) (fun H locs h => ?_)
  refine b_if_eq (tgt := 24) hx hb dX7_pass_19 (by decide) (fun _ => ?_) (fun c => (Bool.noConfusion c))
  refine lv_aload_n hx hb dX7_pass_24 rfl (lv_at hl 0 rfl) ?_
  refine lv_dup hx hb dX7_pass_25 rfl ?_
  refine gf_Model_month X h (hL (30, 0, 0, 0) ⟨by decide, rfl, rfl, rfl⟩) q796 (v := (thM I 0) (30, 0, 0, 0) 0) rfl dX7_pass_26 ?_
  refine lv_iload_n hx hb dX7_pass_29 rfl (lv_at hl 1 rfl) ?_
  refine lv_iadd hx hb dX7_pass_30 ?_
  refine pf_Model_month X h (hL (30, 0, 0, 0) ⟨by decide, rfl, rfl, rfl⟩) q796 dX7_pass_31 (fun H locs h => ?_)
  have h := h.eq (congrArg (lay tc ad gm dz) (show (sset (thM I 0) (30, 0, 0, 0) (upd ((thM I 0) (30, 0, 0, 0)) 0 (((thM I 0) (30, 0, 0, 0) 0) + w))) = (mpD I w n m 0) from rfl))
  refine lv_iconst (v := nI 0) hx hb dX7_pass_34 (by decide) ?_
  refine lv_istore_n (lv' := [(2, .int (nI 0)), (0, .ref (ad (30, 0, 0, 0))), (1, .int w)]) hx hb dX7_pass_35 rfl hl (by decide) rfl (fun ls hl => ?_)
  refine lv_iconst (v := nI 0) hx hb dX7_pass_36 (by decide) ?_
  refine lv_istore_n (lv' := [(3, .int (nI 0)), (2, .int (nI 0)), (0, .ref (ad (30, 0, 0, 0))), (1, .int w)]) hx hb dX7_pass_37 rfl hl (by decide) rfl (fun ls hl => ?_)
  refine y_loop (D := D) (A := wA ad Ks s.heap.size) (ad := ad) (Ks := Ks) (nL := 5) (fun i : Nat => lay tc ad gm dz (mpD I w n m i)) (fun i => [(3, .int (nI i)), (2, .int (nI (mpDn I w n m i))), (1, .int w), (0, .ref (ad (30, 0, 0, 0)))]) (fun _ => []) (fun i : Nat => i ≤ 6) (fun i => 6 - i) (fun i hi38 ih38 H locs ls h hl => ?_) 0 (Nat.zero_le _) (h.eq (congrArg (lay tc ad gm dz) rfl)) (lv_sub hl [0, 1, 3, 2] rfl) rfl
  have h : Sx D (wA ad Ks s.heap.size) ad Ks (lay tc ad gm dz (mpD I w n m i)) s H locs := h
  have hl : lv_has ls 5 [(3, .int (nI i)), (2, .int (nI (mpDn I w n m i))), (1, .int w), (0, .ref (ad (30, 0, 0, 0)))] := hl
  refine lv_iload_n hx hb dX7_pass_38 rfl (lv_at hl 0 rfl) ?_
  refine lv_bipush (v := nI 6) hx hb dX7_pass_39 (by decide) ?_
  refine n_icmp_ge (tgt := 112) hx hb (by omega) (by omega) dX7_pass_41 (by decide) (fun c_41 => ?_) (fun c_41 => ?_)
  · skip
    obtain rfl : i = 6 := by omega
    refine lv_iload_n hx hb dX7_pass_112 rfl (lv_at hl 1 rfl) ?_
    exact x_iret X h hr rfl rfl (fun _ _ => rfl) dX7_pass_113
  · skip
    refine lv_iconst (v := nI 0) hx hb dX7_pass_44 (by decide) ?_
    refine lv_istore (lv' := [(4, .int (nI 0)), (3, .int (nI i)), (2, .int (nI (mpDn I w n m i))), (1, .int w), (0, .ref (ad (30, 0, 0, 0)))]) hx hb dX7_pass_45 hl (by decide) rfl (fun ls hl => ?_)
    refine y_loop (D := D) (A := wA ad Ks s.heap.size) (ad := ad) (Ks := Ks) (nL := 5) (fun j : Nat => lay tc ad gm dz (mpE (mpD I w n m i) i m j)) (fun j => [(4, .int (nI j)), (3, .int (nI i)), (2, .int (nI (mpDn I w n m i + mpEn (mpD I w n m i) i m j))), (1, .int w), (0, .ref (ad (30, 0, 0, 0)))]) (fun _ => []) (fun j : Nat => j ≤ n) (fun j => n - j) (fun j hi47 ih47 H locs ls h hl => ?_) 0 (Nat.zero_le _) (h.eq (congrArg (lay tc ad gm dz) rfl)) (lv_sub hl [0, 1, 2, 3, 4] rfl) rfl
    have h : Sx D (wA ad Ks s.heap.size) ad Ks (lay tc ad gm dz (mpE (mpD I w n m i) i m j)) s H locs := h
    have hl : lv_has ls 5 [(4, .int (nI j)), (3, .int (nI i)), (2, .int (nI (mpDn I w n m i + mpEn (mpD I w n m i) i m j))), (1, .int w), (0, .ref (ad (30, 0, 0, 0)))] := hl
    refine lv_iload hx hb dX7_pass_47 (lv_at hl 0 rfl) ?_
    refine lv_aload_n hx hb dX7_pass_49 rfl (lv_at hl 4 rfl) ?_
    refine gf_Model_entries X h (hL (30, 0, 0, 0) ⟨by decide, rfl, rfl, rfl⟩) q798 (v := nI n) ((congrFun (mpE_30 _) 1).trans ((mpD_30 (by decide) (by decide) _).trans hn)) dX7_pass_50 ?_
    refine n_icmp_ge (tgt := 106) hx hb (by omega) (by omega) dX7_pass_53 (by decide) (fun c_53 => ?_) (fun c_53 => ?_)
    · skip
      have hjn : n = j := by omega
      subst hjn
      have hcn : nI (mpDn I w n m (i + 1)) = nI (mpDn I w n m i + mpEn (mpD I w n m i) i m n) := by rfl
      have hl : lv_has ls 5 [(4, .int (nI n)), (3, .int (nI i)), (2, .int (nI (mpDn I w n m (i + 1)))), (1, .int w), (0, .ref (ad (30, 0, 0, 0)))] := by rw [hcn]; exact hl
      refine n_iinc (j := i) (n := 1) (lv' := [(3, .int (nI (i + 1))), (4, .int (nI n)), (2, .int (nI (mpDn I w n m (i + 1)))), (1, .int w), (0, .ref (ad (30, 0, 0, 0)))]) hx hb dX7_pass_106 hl (k := 1) rfl (by decide) (by decide) rfl (fun ls hl => ?_)
      refine lv_goto (tgt := 38) hx hb dX7_pass_109 (by decide) ?_
      exact ih38 (i + 1) (by omega) (by omega) H locs ls (h.eq (congrArg (lay tc ad gm dz) rfl)) (lv_sub hl [0, 2, 3, 4] rfl)
    · skip
      refine lv_aload_n hx hb dX7_pass_56 rfl (lv_at hl 4 rfl) ?_
      refine gf_Model_knows X h (hL (30, 0, 0, 0) ⟨by decide, rfl, rfl, rfl⟩) q801 dX7_pass_57 ?_
      refine lv_iload_n hx hb dX7_pass_60 rfl (lv_at hl 1 rfl) ?_
      refine lv_iload hx hb dX7_pass_61 (lv_at hl 0 rfl) ?_
      refine x_doneI X h (x_runS X h (m_X7_pair (mpE (mpD I w n m i) i m j) i j _) F_X7_pair q867 q868 rfl (by decide) (by decide) ⟨Nat.le_refl _, Nat.le_refl _⟩ hl.1 (Nat.le_of_ble_eq_true rfl) dX7_pass_63 rfl) (fun H locs h => ?_)
      refine y_zald X h (fun _ => rfl) (by decide) (hL (34, 0, 0, 0) ⟨by decide, rfl, rfl, rfl⟩) (by omega) (v := (mpE (mpD I w n m i) i m j) (34, 0, 0, 0) (10 * i + j)) rfl dX7_pass_66 ?_
      refine lv_if_eq (tgt := 100) hx hb dX7_pass_67 (by decide) (fun c_67 => ?_) (fun c_67 => ?_)
      · skip
        have hq : mpB (mpE (mpD I w n m i) i m j) i j m = false := by simp only [mpB, c_41, c_53, eq_true c_67, decide_true, decide_false, Bool.not_true, Bool.not_false, Bool.and_true, Bool.and_false, Bool.true_and, Bool.false_and, Bool.or_true, Bool.or_false, Bool.true_or, Bool.false_or, Bool.and_self, Bool.or_self, ↓reduceIte, Bool.false_eq_true, not_false_eq_true, not_true_eq_false]
        have hcn : mpDn I w n m i + mpEn (mpD I w n m i) i m (j + 1) = mpDn I w n m i + mpEn (mpD I w n m i) i m j := by rw [mpEn, if_neg (by rw [hq]; decide), Nat.add_zero]
        rw [← hcn] at hl
        refine n_iinc (j := j) (n := 1) (lv' := [(4, .int (nI (j + 1))), (3, .int (nI i)), (2, .int (nI (mpDn I w n m i + mpEn (mpD I w n m i) i m (j + 1)))), (1, .int w), (0, .ref (ad (30, 0, 0, 0)))]) hx hb dX7_pass_100 hl (k := 0) rfl (by decide) (by decide) rfl (fun ls hl => ?_)
        refine lv_goto (tgt := 47) hx hb dX7_pass_103 (by decide) ?_
        have hm : (mpE (mpD I w n m i) i m j) = (mpE (mpD I w n m i) i m (j + 1)) := by
          rw [mpE, if_neg (by rw [hq]; decide)]
        exact ih47 (j + 1) (by omega) (by omega) H locs ls (h.eq (congrArg (lay tc ad gm dz) hm)) (lv_sub hl [0, 1, 2, 3, 4] rfl)
      · skip
        refine lv_aload_n hx hb dX7_pass_70 rfl (lv_at hl 4 rfl) ?_
        refine lv_iload_n hx hb dX7_pass_71 rfl (lv_at hl 1 rfl) ?_
        refine lv_iload hx hb dX7_pass_72 (lv_at hl 0 rfl) ?_
        refine x_doneI X h (x_runV X h (k := (30, 0, 0, 0)) (m_X7_isThere (mpE (mpD I w n m i) i m j) hL i j (by omega) (by omega) m ((congrFun (mpE_30 _) _).trans ((mpD_30 (by decide) (by decide) _).trans hmm)) hm5 _) F_X7_isThere q900 q902 q10 (hL (30, 0, 0, 0) ⟨by decide, rfl, rfl, rfl⟩) rfl rfl rfl (by decide) (by decide) ⟨Nat.le_refl _, Nat.le_refl _⟩ hl.1 (Nat.le_of_ble_eq_true rfl) dX7_pass_74 rfl) (fun H locs h => ?_)
        refine b_if_ne (tgt := 100) hx hb dX7_pass_77 (by decide) (fun c_77 => ?_) (fun c_77 => ?_)
        · skip
          have hq : mpB (mpE (mpD I w n m i) i m j) i j m = false := by simp only [mpB, c_41, c_53, c_67, c_77, decide_true, decide_false, Bool.not_true, Bool.not_false, Bool.and_true, Bool.and_false, Bool.true_and, Bool.false_and, Bool.or_true, Bool.or_false, Bool.true_or, Bool.false_or, Bool.and_self, Bool.or_self, ↓reduceIte, Bool.false_eq_true, not_false_eq_true, not_true_eq_false]
          have hcn : mpDn I w n m i + mpEn (mpD I w n m i) i m (j + 1) = mpDn I w n m i + mpEn (mpD I w n m i) i m j := by rw [mpEn, if_neg (by rw [hq]; decide), Nat.add_zero]
          rw [← hcn] at hl
          refine n_iinc (j := j) (n := 1) (lv' := [(4, .int (nI (j + 1))), (3, .int (nI i)), (2, .int (nI (mpDn I w n m i + mpEn (mpD I w n m i) i m (j + 1)))), (1, .int w), (0, .ref (ad (30, 0, 0, 0)))]) hx hb dX7_pass_100 hl (k := 0) rfl (by decide) (by decide) rfl (fun ls hl => ?_)
          refine lv_goto (tgt := 47) hx hb dX7_pass_103 (by decide) ?_
          have hm : (mpE (mpD I w n m i) i m j) = (mpE (mpD I w n m i) i m (j + 1)) := by
            rw [mpE, if_neg (by rw [hq]; decide)]
          exact ih47 (j + 1) (by omega) (by omega) H locs ls (h.eq (congrArg (lay tc ad gm dz) hm)) (lv_sub hl [0, 1, 2, 3, 4] rfl)
        · skip
          refine lv_aload_n hx hb dX7_pass_80 rfl (lv_at hl 4 rfl) ?_
          refine lv_iload_n hx hb dX7_pass_81 rfl (lv_at hl 1 rfl) ?_
          refine lv_iload hx hb dX7_pass_82 (lv_at hl 0 rfl) ?_
          refine x_doneI X h (x_runV X h (k := (30, 0, 0, 0)) (m_X7_isAged (mpE (mpD I w n m i) i m j) hL i j (by omega) (by omega) m ((congrFun (mpE_30 _) _).trans ((mpD_30 (by decide) (by decide) _).trans hmm)) hm5 _) F_X7_isAged q963 q965 q22 (hL (30, 0, 0, 0) ⟨by decide, rfl, rfl, rfl⟩) rfl rfl rfl (by decide) (by decide) ⟨Nat.le_refl _, Nat.le_refl _⟩ hl.1 (Nat.le_of_ble_eq_true rfl) dX7_pass_84 rfl) (fun H locs h => ?_)
          refine b_if_eq (tgt := 100) hx hb dX7_pass_87 (by decide) (fun c_87 => ?_) (fun c_87 => ?_)
          · skip
            have hq : mpB (mpE (mpD I w n m i) i m j) i j m = false := by simp only [mpB, c_41, c_53, c_67, c_77, c_87, decide_true, decide_false, Bool.not_true, Bool.not_false, Bool.and_true, Bool.and_false, Bool.true_and, Bool.false_and, Bool.or_true, Bool.or_false, Bool.true_or, Bool.false_or, Bool.and_self, Bool.or_self, ↓reduceIte, Bool.false_eq_true, not_false_eq_true, not_true_eq_false]
            have hcn : mpDn I w n m i + mpEn (mpD I w n m i) i m (j + 1) = mpDn I w n m i + mpEn (mpD I w n m i) i m j := by rw [mpEn, if_neg (by rw [hq]; decide), Nat.add_zero]
            rw [← hcn] at hl
            refine n_iinc (j := j) (n := 1) (lv' := [(4, .int (nI (j + 1))), (3, .int (nI i)), (2, .int (nI (mpDn I w n m i + mpEn (mpD I w n m i) i m (j + 1)))), (1, .int w), (0, .ref (ad (30, 0, 0, 0)))]) hx hb dX7_pass_100 hl (k := 0) rfl (by decide) (by decide) rfl (fun ls hl => ?_)
            refine lv_goto (tgt := 47) hx hb dX7_pass_103 (by decide) ?_
            have hm : (mpE (mpD I w n m i) i m j) = (mpE (mpD I w n m i) i m (j + 1)) := by
              rw [mpE, if_neg (by rw [hq]; decide)]
            exact ih47 (j + 1) (by omega) (by omega) H locs ls (h.eq (congrArg (lay tc ad gm dz) hm)) (lv_sub hl [0, 1, 2, 3, 4] rfl)
          · skip
            have hq : mpB (mpE (mpD I w n m i) i m j) i j m = true := by simp only [mpB, c_41, c_53, c_67, c_77, c_87, decide_true, decide_false, Bool.not_true, Bool.not_false, Bool.and_true, Bool.and_false, Bool.true_and, Bool.false_and, Bool.or_true, Bool.or_false, Bool.true_or, Bool.false_or, Bool.and_self, Bool.or_self, ↓reduceIte, Bool.false_eq_true, not_false_eq_true, not_true_eq_false]
            have hcn : mpDn I w n m i + mpEn (mpD I w n m i) i m (j + 1) = mpDn I w n m i + mpEn (mpD I w n m i) i m j + 1 := by rw [mpEn, if_pos hq, Nat.add_assoc]
            refine lv_aload_n hx hb dX7_pass_90 rfl (lv_at hl 4 rfl) ?_
            refine lv_iload_n hx hb dX7_pass_91 rfl (lv_at hl 1 rfl) ?_
            refine lv_iload hx hb dX7_pass_92 (lv_at hl 0 rfl) ?_
            refine x_doneV X h (x_runV X h (k := (30, 0, 0, 0)) (m_X7_forgets (mpE (mpD I w n m i) i m j) hL i j (by omega) (by omega) m ((congrFun (mpE_30 _) _).trans ((mpD_30 (by decide) (by decide) _).trans hmm)) hm5 _) F_X7_forgets q936 q938 q17 (hL (30, 0, 0, 0) ⟨by decide, rfl, rfl, rfl⟩) rfl rfl rfl (by decide) (by decide) ⟨Nat.le_refl _, Nat.le_refl _⟩ hl.1 (Nat.le_of_ble_eq_true rfl) dX7_pass_94 rfl) (fun H locs h => ?_)
            refine lv_iinc (v := nI (mpDn I w n m i + mpEn (mpD I w n m i) i m (j + 1))) (lv' := [(2, .int (nI (mpDn I w n m i + mpEn (mpD I w n m i) i m (j + 1)))), (4, .int (nI j)), (3, .int (nI i)), (1, .int w), (0, .ref (ad (30, 0, 0, 0)))]) hx hb dX7_pass_97 hl (k := 2) rfl (by rw [hcn]; exact nI_1 _) (by decide) rfl (fun ls hl => ?_)
            refine n_iinc (j := j) (n := 1) (lv' := [(4, .int (nI (j + 1))), (2, .int (nI (mpDn I w n m i + mpEn (mpD I w n m i) i m (j + 1)))), (3, .int (nI i)), (1, .int w), (0, .ref (ad (30, 0, 0, 0)))]) hx hb dX7_pass_100 hl (k := 1) rfl (by decide) (by decide) rfl (fun ls hl => ?_)
            refine lv_goto (tgt := 47) hx hb dX7_pass_103 (by decide) ?_
            have hm : (mforM (mpE (mpD I w n m i) i m j) i j m) = (mpE (mpD I w n m i) i m (j + 1)) := by
              rw [mpE, if_pos hq]
            exact ih47 (j + 1) (by omega) (by omega) H locs ls (h.eq (congrArg (lay tc ad gm dz) hm)) (lv_sub hl [0, 2, 1, 3, 4] rfl)

set_option maxHeartbeats 4000000 in
set_option maxRecDepth 100000 in
theorem m_X7_state_1 {l : Launch} {D : va_G} {tc : TC} {dz : Nat} {ad : KN → Nat} {Ks : List KN} {gm : GM} (I : Mem) (hL : LV gm Ks) (n : Nat) (hn : I (30, 0, 0, 0) 1 = nI n) (hn10 : n ≤ 10) (x y : Int32) (h0 : (isDev x && isEnt n y) = false) : MI l yX7_state cX7_state 4 (Option.some ClassFile.FieldType.int) 2 D tc dz ad Ks (lay tc ad gm dz I) [.ref (ad (30, 0, 0, 0)), .int x, .int y] (nI 0) (lay tc ad gm dz (thM I 1)) := by
  intro sz
  refine x_ofW (by decide +kernel) (Nat.le_of_ble_eq_true rfl) (fun pp ee s mm bel meth cd ls X hr hin hz h hl => ?_)
  subst hz
  obtain ⟨hx, hb, hmaxL, hown, hts⟩ := id X.1
  have hl : lv_has ls 4 [(0, .ref (ad (30, 0, 0, 0))), (1, .int x), (2, .int y)] := hl
  refine lv_iload_n hx hb dX7_state_0 rfl (lv_at hl 1 rfl) ?_
  refine x_doneI X h (x_runS X h (m_X7_isDevice I x _) F_X7_isDevice q857 q858 rfl (by decide) (by decide) ⟨Nat.le_refl _, Nat.le_refl _⟩ hl.1 (Nat.le_of_ble_eq_true rfl) dX7_state_1 rfl) (fun H locs h => ?_)
  refine b_if_eq (tgt := 19) hx hb dX7_state_4 (by decide) (fun c_4 => ?_) (fun c_4 => ?_)
  · skip
    refine lv_iconst (v := nI 0) hx hb dX7_state_19 (by decide) ?_
    refine lv_istore_n (lv' := [(3, .int (nI 0)), (0, .ref (ad (30, 0, 0, 0))), (1, .int x), (2, .int y)]) hx hb dX7_state_20 rfl hl (by decide) rfl (fun ls hl => ?_)
    refine lv_aload_n hx hb dX7_state_21 rfl (lv_at hl 1 rfl) ?_
    refine lv_iload_n hx hb dX7_state_22 rfl (lv_at hl 0 rfl) ?_
    refine lv_if_eq (tgt := 30) hx hb dX7_state_23 (by decide) (fun _ => ?_) (fun c => absurd c (by decide))
    refine lv_iconst (v := nI 1) hx hb dX7_state_30 (by decide) ?_
    refine x_doneI X h (x_runV X h (k := (30, 0, 0, 0)) (m_X7_fails1 I hL _) F_X7_fails q863 q865 q5 (hL (30, 0, 0, 0) ⟨by decide, rfl, rfl, rfl⟩) rfl rfl rfl (by decide) (by decide) ⟨Nat.le_refl _, Nat.le_refl _⟩ hl.1 (Nat.le_of_ble_eq_true rfl) dX7_state_31 rfl) (fun H locs h => ?_)
    refine b_if_ne (tgt := 50) hx hb dX7_state_34 (by decide) (fun _ => ?_) (fun c => (Bool.noConfusion c))
    refine lv_iconst (v := nI 0) hx hb dX7_state_50 (by decide) ?_
    exact x_iret X h hr rfl rfl (fun _ _ => rfl) dX7_state_51
  · skip
    refine lv_aload_n hx hb dX7_state_7 rfl (lv_at hl 0 rfl) ?_
    refine lv_iload_n hx hb dX7_state_8 rfl (lv_at hl 2 rfl) ?_
    refine x_doneI X h (x_runV X h (k := (30, 0, 0, 0)) (m_X7_isEntry I hL n hn hn10 y _) F_X7_isEntry q878 q880 q7 (hL (30, 0, 0, 0) ⟨by decide, rfl, rfl, rfl⟩) rfl rfl rfl (by decide) (by decide) ⟨Nat.le_refl _, Nat.le_refl _⟩ hl.1 (Nat.le_of_ble_eq_true rfl) dX7_state_9 rfl) (fun H locs h => ?_)
    refine b_if_eq (tgt := 19) hx hb dX7_state_12 (by decide) (fun c_12 => ?_) (fun c_12 => ?_)
    · skip
      refine lv_iconst (v := nI 0) hx hb dX7_state_19 (by decide) ?_
      refine lv_istore_n (lv' := [(3, .int (nI 0)), (0, .ref (ad (30, 0, 0, 0))), (1, .int x), (2, .int y)]) hx hb dX7_state_20 rfl hl (by decide) rfl (fun ls hl => ?_)
      refine lv_aload_n hx hb dX7_state_21 rfl (lv_at hl 1 rfl) ?_
      refine lv_iload_n hx hb dX7_state_22 rfl (lv_at hl 0 rfl) ?_
      refine lv_if_eq (tgt := 30) hx hb dX7_state_23 (by decide) (fun _ => ?_) (fun c => absurd c (by decide))
      refine lv_iconst (v := nI 1) hx hb dX7_state_30 (by decide) ?_
      refine x_doneI X h (x_runV X h (k := (30, 0, 0, 0)) (m_X7_fails1 I hL _) F_X7_fails q863 q865 q5 (hL (30, 0, 0, 0) ⟨by decide, rfl, rfl, rfl⟩) rfl rfl rfl (by decide) (by decide) ⟨Nat.le_refl _, Nat.le_refl _⟩ hl.1 (Nat.le_of_ble_eq_true rfl) dX7_state_31 rfl) (fun H locs h => ?_)
      refine b_if_ne (tgt := 50) hx hb dX7_state_34 (by decide) (fun _ => ?_) (fun c => (Bool.noConfusion c))
      refine lv_iconst (v := nI 0) hx hb dX7_state_50 (by decide) ?_
      exact x_iret X h hr rfl rfl (fun _ _ => rfl) dX7_state_51
    · skip
      exact absurd h0 (by rw [c_4, c_12]; decide)

set_option maxHeartbeats 4000000 in
set_option maxRecDepth 100000 in
theorem m_X7_state_0 {l : Launch} {D : va_G} {tc : TC} {dz : Nat} {ad : KN → Nat} {Ks : List KN} {gm : GM} (I : Mem) (hL : LV gm Ks) (n : Nat) (hn : I (30, 0, 0, 0) 1 = nI n) (hn10 : n ≤ 10) (m : Nat) (hmm : I (30, 0, 0, 0) 2 = nI m) (hm5 : m ≤ 1000) (d e : Nat) (hd : d < 6) (hen : e < n) : MI l yX7_state cX7_state 4 (Option.some ClassFile.FieldType.int) 4 D tc dz ad Ks (lay tc ad gm dz I) [.ref (ad (30, 0, 0, 0)), .int (nI d), .int (nI e)] (nI (mstR (thM I 0) d e m)) (lay tc ad gm dz (thM I 0)) := by
  intro sz
  refine x_ofW (by decide +kernel) (Nat.le_of_ble_eq_true rfl) (fun pp ee s mm bel meth cd ls X hr hin hz h hl => ?_)
  subst hz
  obtain ⟨hx, hb, hmaxL, hown, hts⟩ := id X.1
  have hl : lv_has ls 4 [(0, .ref (ad (30, 0, 0, 0))), (1, .int (nI d)), (2, .int (nI e))] := hl
  refine lv_iload_n hx hb dX7_state_0 rfl (lv_at hl 1 rfl) ?_
  refine x_doneI X h (x_runS X h (m_X7_isDevice_in I d (by omega) _) F_X7_isDevice q857 q858 rfl (by decide) (by decide) ⟨Nat.le_refl _, Nat.le_refl _⟩ hl.1 (Nat.le_of_ble_eq_true rfl) dX7_state_1 rfl) (fun H locs h => ?_)
  refine b_if_eq (tgt := 19) hx hb dX7_state_4 (by decide) (fun c => (Bool.noConfusion c)) (fun _ => ?_)
  refine lv_aload_n hx hb dX7_state_7 rfl (lv_at hl 0 rfl) ?_
  refine lv_iload_n hx hb dX7_state_8 rfl (lv_at hl 2 rfl) ?_
  refine x_doneI X h (x_runV X h (k := (30, 0, 0, 0)) (m_X7_isEntry_in I hL n hn hn10 e (by omega) _) F_X7_isEntry q878 q880 q7 (hL (30, 0, 0, 0) ⟨by decide, rfl, rfl, rfl⟩) rfl rfl rfl (by decide) (by decide) ⟨Nat.le_refl _, Nat.le_refl _⟩ hl.1 (Nat.le_of_ble_eq_true rfl) dX7_state_9 rfl) (fun H locs h => ?_)
  refine b_if_eq (tgt := 19) hx hb dX7_state_12 (by decide) (fun c => (Bool.noConfusion c)) (fun _ => ?_)
  refine lv_iconst (v := nI 1) hx hb dX7_state_15 (by decide) ?_
  refine lv_goto (tgt := 20) hx hb dX7_state_16 (by decide) ?_
  refine lv_istore_n (lv' := [(3, .int (nI 1)), (0, .ref (ad (30, 0, 0, 0))), (1, .int (nI d)), (2, .int (nI e))]) hx hb dX7_state_20 rfl hl (by decide) rfl (fun ls hl => ?_)
  refine lv_aload_n hx hb dX7_state_21 rfl (lv_at hl 1 rfl) ?_
  refine lv_iload_n hx hb dX7_state_22 rfl (lv_at hl 0 rfl) ?_
  refine lv_if_eq (tgt := 30) hx hb dX7_state_23 (by decide) (fun c => absurd c (by decide)) (fun _ => ?_)
  refine lv_iconst (v := nI 0) hx hb dX7_state_26 (by decide) ?_
  refine lv_goto (tgt := 31) hx hb dX7_state_27 (by decide) ?_
  refine x_doneI X h (x_runV X h (k := (30, 0, 0, 0)) (m_X7_fails0 I hL _) F_X7_fails q863 q865 q5 (hL (30, 0, 0, 0) ⟨by decide, rfl, rfl, rfl⟩) rfl rfl rfl (by decide) (by decide) ⟨Nat.le_refl _, Nat.le_refl _⟩ hl.1 (Nat.le_of_ble_eq_true rfl) dX7_state_31 rfl) (fun H locs h => ?_)
  refine b_if_ne (tgt := 50) hx hb dX7_state_34 (by decide) (fun c => (Bool.noConfusion c)) (fun _ => ?_)
  refine lv_aload_n hx hb dX7_state_37 rfl (lv_at hl 1 rfl) ?_
  refine gf_Model_knows X h (hL (30, 0, 0, 0) ⟨by decide, rfl, rfl, rfl⟩) q801 dX7_state_38 ?_
  refine lv_iload_n hx hb dX7_state_41 rfl (lv_at hl 2 rfl) ?_
  refine lv_iload_n hx hb dX7_state_42 rfl (lv_at hl 3 rfl) ?_
  refine x_doneI X h (x_runS X h (m_X7_pair (thM I 0) d e _) F_X7_pair q867 q868 rfl (by decide) (by decide) ⟨Nat.le_refl _, Nat.le_refl _⟩ hl.1 (Nat.le_of_ble_eq_true rfl) dX7_state_43 rfl) (fun H locs h => ?_)
  refine y_zald X h (fun _ => rfl) (by decide) (hL (34, 0, 0, 0) ⟨by decide, rfl, rfl, rfl⟩) (by omega) (v := (thM I 0) (34, 0, 0, 0) (10 * d + e)) rfl dX7_state_46 ?_
  refine lv_if_ne (tgt := 52) hx hb dX7_state_47 (by decide) (fun c_47 => ?_) (fun c_47 => ?_)
  · skip
    refine lv_aload_n hx hb dX7_state_52 rfl (lv_at hl 1 rfl) ?_
    refine lv_iload_n hx hb dX7_state_53 rfl (lv_at hl 2 rfl) ?_
    refine lv_iload_n hx hb dX7_state_54 rfl (lv_at hl 3 rfl) ?_
    refine x_doneI X h (x_runV X h (k := (30, 0, 0, 0)) (m_X7_isThere (thM I 0) hL d e (by omega) (by omega) m (by first | exact hmm | (rw [th_30 (by decide)]; exact hmm) | (simp only [sset_ne _ _ (nek (by decide) : ((30, 0, 0, 0) : KN) ≠ (31, 0, 0, 0)), sset_ne _ _ (nek (by decide) : ((30, 0, 0, 0) : KN) ≠ (32, 0, 0, 0)), sset_ne _ _ (nek (by decide) : ((30, 0, 0, 0) : KN) ≠ (33, 0, 0, 0)), sset_ne _ _ (nek (by decide) : ((30, 0, 0, 0) : KN) ≠ (34, 0, 0, 0)), sset_ne _ _ (nek (by decide) : ((30, 0, 0, 0) : KN) ≠ (35, 0, 0, 0)), sset_ne _ _ (nek (by decide) : ((30, 0, 0, 0) : KN) ≠ (36, 0, 0, 0)), sset_ne _ _ (nek (by decide) : ((30, 0, 0, 0) : KN) ≠ (37, 0, 0, 0)), sset_ne _ _ (nek (by decide) : ((30, 0, 0, 0) : KN) ≠ (38, 0, 0, 0)), sset_ne _ _ (nek (by decide) : ((30, 0, 0, 0) : KN) ≠ (39, 0, 0, 0)), sset_ne _ _ (nek (by decide) : ((30, 0, 0, 0) : KN) ≠ (40, 0, 0, 0)), sset_ne _ _ (nek (by decide) : ((30, 0, 0, 0) : KN) ≠ (41, 0, 0, 0)), sset_ne _ _ (nek (by decide) : ((30, 0, 0, 0) : KN) ≠ (42, 0, 0, 0)), sset_eq, upd, ↓reduceIte]; first | exact hmm | (rw [th_30 (by decide)]; exact hmm))) hm5 _) F_X7_isThere q900 q902 q10 (hL (30, 0, 0, 0) ⟨by decide, rfl, rfl, rfl⟩) rfl rfl rfl (by decide) (by decide) ⟨Nat.le_refl _, Nat.le_refl _⟩ hl.1 (Nat.le_of_ble_eq_true rfl) dX7_state_55 rfl) (fun H locs h => ?_)
    refine b_if_eq (tgt := 65) hx hb dX7_state_58 (by decide) (fun c_58 => ?_) (fun c_58 => ?_)
    · skip
      refine lv_aload_n hx hb dX7_state_65 rfl (lv_at hl 1 rfl) ?_
      refine lv_iload_n hx hb dX7_state_66 rfl (lv_at hl 2 rfl) ?_
      refine lv_iload_n hx hb dX7_state_67 rfl (lv_at hl 3 rfl) ?_
      refine x_doneI X h (x_runV X h (k := (30, 0, 0, 0)) (m_X7_isCovered (thM I 0) hL d e (by omega) (by omega) m (by first | exact hmm | (rw [th_30 (by decide)]; exact hmm) | (simp only [sset_ne _ _ (nek (by decide) : ((30, 0, 0, 0) : KN) ≠ (31, 0, 0, 0)), sset_ne _ _ (nek (by decide) : ((30, 0, 0, 0) : KN) ≠ (32, 0, 0, 0)), sset_ne _ _ (nek (by decide) : ((30, 0, 0, 0) : KN) ≠ (33, 0, 0, 0)), sset_ne _ _ (nek (by decide) : ((30, 0, 0, 0) : KN) ≠ (34, 0, 0, 0)), sset_ne _ _ (nek (by decide) : ((30, 0, 0, 0) : KN) ≠ (35, 0, 0, 0)), sset_ne _ _ (nek (by decide) : ((30, 0, 0, 0) : KN) ≠ (36, 0, 0, 0)), sset_ne _ _ (nek (by decide) : ((30, 0, 0, 0) : KN) ≠ (37, 0, 0, 0)), sset_ne _ _ (nek (by decide) : ((30, 0, 0, 0) : KN) ≠ (38, 0, 0, 0)), sset_ne _ _ (nek (by decide) : ((30, 0, 0, 0) : KN) ≠ (39, 0, 0, 0)), sset_ne _ _ (nek (by decide) : ((30, 0, 0, 0) : KN) ≠ (40, 0, 0, 0)), sset_ne _ _ (nek (by decide) : ((30, 0, 0, 0) : KN) ≠ (41, 0, 0, 0)), sset_ne _ _ (nek (by decide) : ((30, 0, 0, 0) : KN) ≠ (42, 0, 0, 0)), sset_eq, upd, ↓reduceIte]; first | exact hmm | (rw [th_30 (by decide)]; exact hmm))) hm5 _) F_X7_isCovered q908 q910 q12 (hL (30, 0, 0, 0) ⟨by decide, rfl, rfl, rfl⟩) rfl rfl rfl (by decide) (by decide) ⟨Nat.le_refl _, Nat.le_refl _⟩ hl.1 (Nat.le_of_ble_eq_true rfl) dX7_state_68 rfl) (fun H locs h => ?_)
      refine b_if_eq (tgt := 78) hx hb dX7_state_71 (by decide) (fun c_71 => ?_) (fun c_71 => ?_)
      · skip
        refine lv_iconst (v := nI 3) hx hb dX7_state_78 (by decide) ?_
        refine x_iret X h hr rfl ?_ (fun _ _ => rfl) dX7_state_79
        · simp only [mstR, c_47, c_58, c_71, decide_true, decide_false, Bool.not_true, Bool.not_false, Bool.and_true, Bool.and_false, Bool.true_and, Bool.false_and, Bool.or_true, Bool.or_false, Bool.true_or, Bool.false_or, Bool.and_self, Bool.or_self, ↓reduceIte, Bool.false_eq_true, not_false_eq_true, not_true_eq_false]
      · skip
        refine lv_iconst (v := nI 2) hx hb dX7_state_74 (by decide) ?_
        refine lv_goto (tgt := 79) hx hb dX7_state_75 (by decide) ?_
        refine x_iret X h hr rfl ?_ (fun _ _ => rfl) dX7_state_79
        · simp only [mstR, c_47, c_58, c_71, decide_true, decide_false, Bool.not_true, Bool.not_false, Bool.and_true, Bool.and_false, Bool.true_and, Bool.false_and, Bool.or_true, Bool.or_false, Bool.true_or, Bool.false_or, Bool.and_self, Bool.or_self, ↓reduceIte, Bool.false_eq_true, not_false_eq_true, not_true_eq_false]
    · skip
      refine lv_iconst (v := nI 1) hx hb dX7_state_61 (by decide) ?_
      refine lv_goto (tgt := 79) hx hb dX7_state_62 (by decide) ?_
      refine x_iret X h hr rfl ?_ (fun _ _ => rfl) dX7_state_79
      · simp only [mstR, c_47, c_58, decide_true, decide_false, Bool.not_true, Bool.not_false, Bool.and_true, Bool.and_false, Bool.true_and, Bool.false_and, Bool.or_true, Bool.or_false, Bool.true_or, Bool.false_or, Bool.and_self, Bool.or_self, ↓reduceIte, Bool.false_eq_true, not_false_eq_true, not_true_eq_false]
  · skip
    refine lv_iconst (v := nI 0) hx hb dX7_state_50 (by decide) ?_
    refine x_iret X h hr rfl ?_ (fun _ _ => rfl) dX7_state_51
    · simp only [mstR, eq_true c_47, decide_true, decide_false, Bool.not_true, Bool.not_false, Bool.and_true, Bool.and_false, Bool.true_and, Bool.false_and, Bool.or_true, Bool.or_false, Bool.true_or, Bool.false_or, Bool.and_self, Bool.or_self, ↓reduceIte, Bool.false_eq_true, not_false_eq_true, not_true_eq_false]

set_option maxHeartbeats 4000000 in
set_option maxRecDepth 100000 in
theorem m_X7_teller {l : Launch} {D : va_G} {tc : TC} {dz : Nat} {ad : KN → Nat} {Ks : List KN} {gm : GM} (I : Mem) (hL : LV gm Ks) (d e : Nat) (hd : d < 6) (he : e < 10) (f j : Nat) (hf : f < 4) (hj : j < 2 ^ 31) : MI l yX7_teller cX7_teller 7 (Option.some ClassFile.FieldType.int) 1 D tc dz ad Ks (lay tc ad gm dz I) [.ref (ad (30, 0, 0, 0)), .int (nI d), .int (nI e), .int (nI f), .int (nI j)] (nI (tel I d e f 6 0 j)) (lay tc ad gm dz I) := by
  intro sz
  refine x_ofW (by decide +kernel) (Nat.le_of_ble_eq_true rfl) (fun pp ee s mm bel meth cd ls X hr hin hz h hl => ?_)
  subst hz
  obtain ⟨hx, hb, hmaxL, hown, hts⟩ := id X.1
  have hl : lv_has ls 7 [(0, .ref (ad (30, 0, 0, 0))), (1, .int (nI d)), (2, .int (nI e)), (3, .int (nI f)), (4, .int (nI j))] := hl
  refine lv_iload hx hb dX7_teller_0 (lv_at hl 4 rfl) ?_
  refine lv_istore (lv' := [(5, .int (nI j)), (0, .ref (ad (30, 0, 0, 0))), (1, .int (nI d)), (2, .int (nI e)), (3, .int (nI f)), (4, .int (nI j))]) hx hb dX7_teller_2 hl (by decide) rfl (fun ls hl => ?_)
  refine lv_iconst (v := nI 0) hx hb dX7_teller_4 (by decide) ?_
  refine lv_istore (lv' := [(6, .int (nI 0)), (5, .int (nI j)), (0, .ref (ad (30, 0, 0, 0))), (1, .int (nI d)), (2, .int (nI e)), (3, .int (nI f)), (4, .int (nI j))]) hx hb dX7_teller_5 hl (by decide) rfl (fun ls hl => ?_)
  refine y_loop (D := D) (A := wA ad Ks s.heap.size) (ad := ad) (Ks := Ks) (nL := 7) (fun x : Nat × Nat => lay tc ad gm dz I) (fun x => [(6, .int (nI x.1)), (5, .int (nI x.2)), (3, .int (nI f)), (2, .int (nI e)), (1, .int (nI d)), (0, .ref (ad (30, 0, 0, 0)))]) (fun _ => []) (fun x : Nat × Nat => x.1 ≤ 6 ∧ x.2 ≤ j ∧ tel I d e f 6 0 j = tel I d e f (6 - x.1) x.1 x.2) (fun x => 6 - x.1) (fun x hi7 ih7 H locs ls h hl => ?_) (0, j) ⟨Nat.zero_le _, Nat.le_refl _, rfl⟩ (h.eq (congrArg (lay tc ad gm dz) rfl)) (lv_sub hl [0, 1, 5, 4, 3, 2] rfl) rfl
  have h : Sx D (wA ad Ks s.heap.size) ad Ks (lay tc ad gm dz I) s H locs := h
  have hl : lv_has ls 7 [(6, .int (nI x.1)), (5, .int (nI x.2)), (3, .int (nI f)), (2, .int (nI e)), (1, .int (nI d)), (0, .ref (ad (30, 0, 0, 0)))] := hl
  obtain ⟨h6, hxj, hv⟩ := hi7
  refine lv_iload hx hb dX7_teller_7 (lv_at hl 0 rfl) ?_
  refine lv_bipush (v := nI 6) hx hb dX7_teller_9 (by decide) ?_
  refine n_icmp_ge (tgt := 47) hx hb (by omega) (by omega) dX7_teller_11 (by decide) (fun c_11 => ?_) (fun c_11 => ?_)
  · skip
    refine lv_bipush (v := nI 6) hx hb dX7_teller_47 (by decide) ?_
    refine x_iret X h hr rfl ?_ (fun _ _ => rfl) dX7_teller_49
    · rw [hv, show 6 - x.1 = 0 by omega]; rfl
  · skip
    refine lv_aload_n hx hb dX7_teller_14 rfl (lv_at hl 5 rfl) ?_
    refine gf_Model_act X h (hL (30, 0, 0, 0) ⟨by decide, rfl, rfl, rfl⟩) q802 dX7_teller_15 ?_
    refine lv_iload_n hx hb dX7_teller_18 rfl (lv_at hl 4 rfl) ?_
    refine lv_iload_n hx hb dX7_teller_19 rfl (lv_at hl 3 rfl) ?_
    refine lv_iload_n hx hb dX7_teller_20 rfl (lv_at hl 2 rfl) ?_
    refine lv_iload hx hb dX7_teller_21 (lv_at hl 0 rfl) ?_
    refine x_doneI X h (x_runS X h (m_X7_place I d e f x.1 _) F_X7_place q893 q894 rfl (by decide) (by decide) ⟨Nat.le_refl _, Nat.le_refl _⟩ hl.1 (Nat.le_of_ble_eq_true rfl) dX7_teller_23 rfl) (fun H locs h => ?_)
    refine y_ald X h (fun _ => rfl) (by decide) (hL (35, 0, 0, 0) ⟨by decide, rfl, rfl, rfl⟩) (by omega) (v := I (35, 0, 0, 0) (24 * (10 * d + e) + 6 * f + x.1)) rfl dX7_teller_26 ?_
    refine lv_if_le (tgt := 41) hx hb dX7_teller_27 (by decide) (fun c_27 => ?_) (fun c_27 => ?_)
    · skip
      have hv := hv.trans (tel_n (le0 c_27) (by omega))
      refine n_iinc (j := x.1) (n := 1) (lv' := [(6, .int (nI (x.1 + 1))), (5, .int (nI x.2)), (3, .int (nI f)), (2, .int (nI e)), (1, .int (nI d)), (0, .ref (ad (30, 0, 0, 0)))]) hx hb dX7_teller_41 hl (k := 0) rfl (by decide) (by decide) rfl (fun ls hl => ?_)
      refine lv_goto (tgt := 7) hx hb dX7_teller_44 (by decide) ?_
      exact ih7 ((x.1 + 1, x.2)) ⟨by omega, by omega, hv⟩ (by omega) H locs ls (h.eq (congrArg (lay tc ad gm dz) rfl)) (lv_sub hl [0, 1, 2, 3, 4, 5] rfl)
    · skip
      refine lv_iload hx hb dX7_teller_30 (lv_at hl 1 rfl) ?_
      refine n_if_ne (tgt := 38) hx hb (by omega) dX7_teller_32 (by decide) (fun c_32 => ?_) (fun c_32 => ?_)
      · skip
        have hv := hv.trans (tel_y1 (gt0 c_27) (by omega) (by omega))
        refine lv_iinc (v := nI (x.2 - 1)) (lv' := [(5, .int (nI (x.2 - 1))), (6, .int (nI x.1)), (3, .int (nI f)), (2, .int (nI e)), (1, .int (nI d)), (0, .ref (ad (30, 0, 0, 0)))]) hx hb dX7_teller_38 hl (k := 1) rfl (nI_dec (by omega)) (by decide) rfl (fun ls hl => ?_)
        refine n_iinc (j := x.1) (n := 1) (lv' := [(6, .int (nI (x.1 + 1))), (5, .int (nI (x.2 - 1))), (3, .int (nI f)), (2, .int (nI e)), (1, .int (nI d)), (0, .ref (ad (30, 0, 0, 0)))]) hx hb dX7_teller_41 hl (k := 1) rfl (by decide) (by decide) rfl (fun ls hl => ?_)
        refine lv_goto (tgt := 7) hx hb dX7_teller_44 (by decide) ?_
        exact ih7 ((x.1 + 1, (x.2 - 1))) ⟨by omega, by omega, hv⟩ (by omega) H locs ls (h.eq (congrArg (lay tc ad gm dz) rfl)) (lv_sub hl [0, 1, 2, 3, 4, 5] rfl)
      · skip
        have hv := hv.trans (tel_y0 (gt0 c_27) (by omega) (by omega))
        refine lv_iload hx hb dX7_teller_35 (lv_at hl 0 rfl) ?_
        refine x_iret X h hr rfl ?_ (fun _ _ => rfl) dX7_teller_37
        · exact congrArg nI hv.symm

set_option maxHeartbeats 4000000 in
set_option maxRecDepth 100000 in
theorem m_X7_valueOf_1 {l : Launch} {D : va_G} {tc : TC} {dz : Nat} {ad : KN → Nat} {Ks : List KN} {gm : GM} (I : Mem) (hL : LV gm Ks) (n : Nat) (hn : I (30, 0, 0, 0) 1 = nI n) (hn10 : n ≤ 10) (x y z w : Int32) (h0 : (knwB I n x y && (isFld z && !decide (w < 0))) = false) : MI l yX7_valueOf cX7_valueOf 7 (Option.some ClassFile.FieldType.int) 3 D tc dz ad Ks (lay tc ad gm dz I) [.ref (ad (30, 0, 0, 0)), .int x, .int y, .int z, .int w] (nI 0) (lay tc ad gm dz (thM I 1)) := by
  intro sz
  refine x_ofW (by decide +kernel) (Nat.le_of_ble_eq_true rfl) (fun pp ee s mm bel meth cd ls X hr hin hz h hl => ?_)
  subst hz
  obtain ⟨hx, hb, hmaxL, hown, hts⟩ := id X.1
  have hl : lv_has ls 7 [(0, .ref (ad (30, 0, 0, 0))), (1, .int x), (2, .int y), (3, .int z), (4, .int w)] := hl
  refine lv_aload_n hx hb dX7_valueOf_0 rfl (lv_at hl 0 rfl) ?_
  refine lv_iload_n hx hb dX7_valueOf_1 rfl (lv_at hl 1 rfl) ?_
  refine lv_iload_n hx hb dX7_valueOf_2 rfl (lv_at hl 2 rfl) ?_
  refine x_doneI X h (x_runV X h (k := (30, 0, 0, 0)) (m_X7_isKnown I hL n hn hn10 x y _) F_X7_isKnown q874 q876 q6 (hL (30, 0, 0, 0) ⟨by decide, rfl, rfl, rfl⟩) rfl rfl rfl (by decide) (by decide) ⟨Nat.le_refl _, Nat.le_refl _⟩ hl.1 (Nat.le_of_ble_eq_true rfl) dX7_valueOf_3 rfl) (fun H locs h => ?_)
  refine b_if_eq (tgt := 25) hx hb dX7_valueOf_6 (by decide) (fun c_6 => ?_) (fun c_6 => ?_)
  · skip
    refine lv_iconst (v := nI 0) hx hb dX7_valueOf_25 (by decide) ?_
    refine lv_istore (lv' := [(5, .int (nI 0)), (0, .ref (ad (30, 0, 0, 0))), (1, .int x), (2, .int y), (3, .int z), (4, .int w)]) hx hb dX7_valueOf_26 hl (by decide) rfl (fun ls hl => ?_)
    refine lv_iload hx hb dX7_valueOf_28 (lv_at hl 0 rfl) ?_
    refine lv_if_eq (tgt := 45) hx hb dX7_valueOf_30 (by decide) (fun _ => ?_) (fun c => absurd c (by decide))
    refine lv_bipush (v := nI 6) hx hb dX7_valueOf_45 (by decide) ?_
    refine lv_istore (lv' := [(6, .int (nI 6)), (5, .int (nI 0)), (0, .ref (ad (30, 0, 0, 0))), (1, .int x), (2, .int y), (3, .int z), (4, .int w)]) hx hb dX7_valueOf_47 hl (by decide) rfl (fun ls hl => ?_)
    refine lv_aload_n hx hb dX7_valueOf_49 rfl (lv_at hl 2 rfl) ?_
    refine lv_iload hx hb dX7_valueOf_50 (lv_at hl 0 rfl) ?_
    refine lv_bipush (v := nI 6) hx hb dX7_valueOf_52 (by decide) ?_
    refine n_icmp_ge (tgt := 61) hx hb (by omega) (by omega) dX7_valueOf_54 (by decide) (fun c_54 => ?_) (fun c_54 => ?_)
    · skip
      refine lv_iconst (v := nI 1) hx hb dX7_valueOf_61 (by decide) ?_
      refine x_doneI X h (x_runV X h (k := (30, 0, 0, 0)) (m_X7_fails1 I hL _) F_X7_fails q863 q865 q5 (hL (30, 0, 0, 0) ⟨by decide, rfl, rfl, rfl⟩) rfl rfl rfl (by decide) (by decide) ⟨Nat.le_refl _, Nat.le_refl _⟩ hl.1 (Nat.le_of_ble_eq_true rfl) dX7_valueOf_62 rfl) (fun H locs h => ?_)
      refine b_if_eq (tgt := 72) hx hb dX7_valueOf_65 (by decide) (fun c => (Bool.noConfusion c)) (fun _ => ?_)
      refine lv_iconst (v := nI 0) hx hb dX7_valueOf_68 (by decide) ?_
      refine lv_goto (tgt := 85) hx hb dX7_valueOf_69 (by decide) ?_
      exact x_iret X h hr rfl rfl (fun _ _ => rfl) dX7_valueOf_85
    · skip
      exact absurd c_54 (by omega)
  · skip
    refine lv_iload_n hx hb dX7_valueOf_9 rfl (lv_at hl 3 rfl) ?_
    refine x_doneI X h (x_runS X h (m_X7_isField I z _) F_X7_isField q882 q883 rfl (by decide) (by decide) ⟨Nat.le_refl _, Nat.le_refl _⟩ hl.1 (Nat.le_of_ble_eq_true rfl) dX7_valueOf_10 rfl) (fun H locs h => ?_)
    refine b_if_eq (tgt := 25) hx hb dX7_valueOf_13 (by decide) (fun c_13 => ?_) (fun c_13 => ?_)
    · skip
      refine lv_iconst (v := nI 0) hx hb dX7_valueOf_25 (by decide) ?_
      refine lv_istore (lv' := [(5, .int (nI 0)), (0, .ref (ad (30, 0, 0, 0))), (1, .int x), (2, .int y), (3, .int z), (4, .int w)]) hx hb dX7_valueOf_26 hl (by decide) rfl (fun ls hl => ?_)
      refine lv_iload hx hb dX7_valueOf_28 (lv_at hl 0 rfl) ?_
      refine lv_if_eq (tgt := 45) hx hb dX7_valueOf_30 (by decide) (fun _ => ?_) (fun c => absurd c (by decide))
      refine lv_bipush (v := nI 6) hx hb dX7_valueOf_45 (by decide) ?_
      refine lv_istore (lv' := [(6, .int (nI 6)), (5, .int (nI 0)), (0, .ref (ad (30, 0, 0, 0))), (1, .int x), (2, .int y), (3, .int z), (4, .int w)]) hx hb dX7_valueOf_47 hl (by decide) rfl (fun ls hl => ?_)
      refine lv_aload_n hx hb dX7_valueOf_49 rfl (lv_at hl 2 rfl) ?_
      refine lv_iload hx hb dX7_valueOf_50 (lv_at hl 0 rfl) ?_
      refine lv_bipush (v := nI 6) hx hb dX7_valueOf_52 (by decide) ?_
      refine n_icmp_ge (tgt := 61) hx hb (by omega) (by omega) dX7_valueOf_54 (by decide) (fun c_54 => ?_) (fun c_54 => ?_)
      · skip
        refine lv_iconst (v := nI 1) hx hb dX7_valueOf_61 (by decide) ?_
        refine x_doneI X h (x_runV X h (k := (30, 0, 0, 0)) (m_X7_fails1 I hL _) F_X7_fails q863 q865 q5 (hL (30, 0, 0, 0) ⟨by decide, rfl, rfl, rfl⟩) rfl rfl rfl (by decide) (by decide) ⟨Nat.le_refl _, Nat.le_refl _⟩ hl.1 (Nat.le_of_ble_eq_true rfl) dX7_valueOf_62 rfl) (fun H locs h => ?_)
        refine b_if_eq (tgt := 72) hx hb dX7_valueOf_65 (by decide) (fun c => (Bool.noConfusion c)) (fun _ => ?_)
        refine lv_iconst (v := nI 0) hx hb dX7_valueOf_68 (by decide) ?_
        refine lv_goto (tgt := 85) hx hb dX7_valueOf_69 (by decide) ?_
        exact x_iret X h hr rfl rfl (fun _ _ => rfl) dX7_valueOf_85
      · skip
        exact absurd c_54 (by omega)
    · skip
      refine lv_iload hx hb dX7_valueOf_16 (lv_at hl 4 rfl) ?_
      refine lv_if_lt (tgt := 25) hx hb dX7_valueOf_18 (by decide) (fun c_18 => ?_) (fun c_18 => ?_)
      · skip
        refine lv_iconst (v := nI 0) hx hb dX7_valueOf_25 (by decide) ?_
        refine lv_istore (lv' := [(5, .int (nI 0)), (0, .ref (ad (30, 0, 0, 0))), (1, .int x), (2, .int y), (3, .int z), (4, .int w)]) hx hb dX7_valueOf_26 hl (by decide) rfl (fun ls hl => ?_)
        refine lv_iload hx hb dX7_valueOf_28 (lv_at hl 0 rfl) ?_
        refine lv_if_eq (tgt := 45) hx hb dX7_valueOf_30 (by decide) (fun _ => ?_) (fun c => absurd c (by decide))
        refine lv_bipush (v := nI 6) hx hb dX7_valueOf_45 (by decide) ?_
        refine lv_istore (lv' := [(6, .int (nI 6)), (5, .int (nI 0)), (0, .ref (ad (30, 0, 0, 0))), (1, .int x), (2, .int y), (3, .int z), (4, .int w)]) hx hb dX7_valueOf_47 hl (by decide) rfl (fun ls hl => ?_)
        refine lv_aload_n hx hb dX7_valueOf_49 rfl (lv_at hl 2 rfl) ?_
        refine lv_iload hx hb dX7_valueOf_50 (lv_at hl 0 rfl) ?_
        refine lv_bipush (v := nI 6) hx hb dX7_valueOf_52 (by decide) ?_
        refine n_icmp_ge (tgt := 61) hx hb (by omega) (by omega) dX7_valueOf_54 (by decide) (fun c_54 => ?_) (fun c_54 => ?_)
        · skip
          refine lv_iconst (v := nI 1) hx hb dX7_valueOf_61 (by decide) ?_
          refine x_doneI X h (x_runV X h (k := (30, 0, 0, 0)) (m_X7_fails1 I hL _) F_X7_fails q863 q865 q5 (hL (30, 0, 0, 0) ⟨by decide, rfl, rfl, rfl⟩) rfl rfl rfl (by decide) (by decide) ⟨Nat.le_refl _, Nat.le_refl _⟩ hl.1 (Nat.le_of_ble_eq_true rfl) dX7_valueOf_62 rfl) (fun H locs h => ?_)
          refine b_if_eq (tgt := 72) hx hb dX7_valueOf_65 (by decide) (fun c => (Bool.noConfusion c)) (fun _ => ?_)
          refine lv_iconst (v := nI 0) hx hb dX7_valueOf_68 (by decide) ?_
          refine lv_goto (tgt := 85) hx hb dX7_valueOf_69 (by decide) ?_
          exact x_iret X h hr rfl rfl (fun _ _ => rfl) dX7_valueOf_85
        · skip
          exact absurd c_54 (by omega)
      · skip
        exact absurd h0 (by rw [c_6, c_13, decide_eq_false c_18]; decide)

set_option maxHeartbeats 4000000 in
set_option maxRecDepth 100000 in
theorem m_X7_valueOf_2 {l : Launch} {D : va_G} {tc : TC} {dz : Nat} {ad : KN → Nat} {Ks : List KN} {gm : GM} (I : Mem) (hL : LV gm Ks) (n : Nat) (hn : I (30, 0, 0, 0) 1 = nI n) (hn10 : n ≤ 10) (d e f j : Nat) (hd : d < 6) (hen : e < n) (hf : f < 4) (hj : j < 2 ^ 31) (hk : nz ((I (34, 0, 0, 0)) (10 * d + e)) = true) (h0 : tel I d e f 6 0 j = 6) : MI l yX7_valueOf cX7_valueOf 7 (Option.some ClassFile.FieldType.int) 3 D tc dz ad Ks (lay tc ad gm dz I) [.ref (ad (30, 0, 0, 0)), .int (nI d), .int (nI e), .int (nI f), .int (nI j)] (nI 0) (lay tc ad gm dz (thM I 1)) := by
  intro sz
  refine x_ofW (by decide +kernel) (Nat.le_of_ble_eq_true rfl) (fun pp ee s mm bel meth cd ls X hr hin hz h hl => ?_)
  subst hz
  obtain ⟨hx, hb, hmaxL, hown, hts⟩ := id X.1
  have hl : lv_has ls 7 [(0, .ref (ad (30, 0, 0, 0))), (1, .int (nI d)), (2, .int (nI e)), (3, .int (nI f)), (4, .int (nI j))] := hl
  refine lv_aload_n hx hb dX7_valueOf_0 rfl (lv_at hl 0 rfl) ?_
  refine lv_iload_n hx hb dX7_valueOf_1 rfl (lv_at hl 1 rfl) ?_
  refine lv_iload_n hx hb dX7_valueOf_2 rfl (lv_at hl 2 rfl) ?_
  refine x_doneI X h (x_runV X h (k := (30, 0, 0, 0)) (m_X7_isKnown_in I hL n hn hn10 d e (by omega) (by omega) _) F_X7_isKnown q874 q876 q6 (hL (30, 0, 0, 0) ⟨by decide, rfl, rfl, rfl⟩) rfl rfl rfl (by decide) (by decide) ⟨Nat.le_refl _, Nat.le_refl _⟩ hl.1 (Nat.le_of_ble_eq_true rfl) dX7_valueOf_3 rfl) (fun H locs h => ?_)
  refine b_if_eq (tgt := 25) hx hb dX7_valueOf_6 (by decide) (fun c => by rw [hk] at c; cases c) (fun _ => ?_)
  refine lv_iload_n hx hb dX7_valueOf_9 rfl (lv_at hl 3 rfl) ?_
  refine x_doneI X h (x_runS X h (m_X7_isField_in I f (by omega) _) F_X7_isField q882 q883 rfl (by decide) (by decide) ⟨Nat.le_refl _, Nat.le_refl _⟩ hl.1 (Nat.le_of_ble_eq_true rfl) dX7_valueOf_10 rfl) (fun H locs h => ?_)
  refine b_if_eq (tgt := 25) hx hb dX7_valueOf_13 (by decide) (fun c => (Bool.noConfusion c)) (fun _ => ?_)
  refine lv_iload hx hb dX7_valueOf_16 (lv_at hl 4 rfl) ?_
  refine lv_if_lt (tgt := 25) hx hb dX7_valueOf_18 (by decide) (fun c_18 => ?_) (fun c_18 => ?_)
  · skip
    exact absurd c_18 (nI_pos (by omega))
  · skip
    refine lv_iconst (v := nI 1) hx hb dX7_valueOf_21 (by decide) ?_
    refine lv_goto (tgt := 26) hx hb dX7_valueOf_22 (by decide) ?_
    refine lv_istore (lv' := [(5, .int (nI 1)), (0, .ref (ad (30, 0, 0, 0))), (1, .int (nI d)), (2, .int (nI e)), (3, .int (nI f)), (4, .int (nI j))]) hx hb dX7_valueOf_26 hl (by decide) rfl (fun ls hl => ?_)
    refine lv_iload hx hb dX7_valueOf_28 (lv_at hl 0 rfl) ?_
    refine lv_if_eq (tgt := 45) hx hb dX7_valueOf_30 (by decide) (fun c => absurd c (by decide)) (fun _ => ?_)
    refine lv_aload_n hx hb dX7_valueOf_33 rfl (lv_at hl 1 rfl) ?_
    refine lv_iload_n hx hb dX7_valueOf_34 rfl (lv_at hl 2 rfl) ?_
    refine lv_iload_n hx hb dX7_valueOf_35 rfl (lv_at hl 3 rfl) ?_
    refine lv_iload_n hx hb dX7_valueOf_36 rfl (lv_at hl 4 rfl) ?_
    refine lv_iload hx hb dX7_valueOf_37 (lv_at hl 5 rfl) ?_
    refine x_doneI X h (x_runV X h (k := (30, 0, 0, 0)) (m_X7_teller I hL d e (by omega) (by omega) f j (by omega) (by omega) _) F_X7_teller q979 q981 q24 (hL (30, 0, 0, 0) ⟨by decide, rfl, rfl, rfl⟩) rfl rfl rfl (by decide) (by decide) ⟨Nat.le_refl _, Nat.le_refl _⟩ hl.1 (Nat.le_of_ble_eq_true rfl) dX7_valueOf_39 rfl) (fun H locs h => ?_)
    refine lv_goto (tgt := 47) hx hb dX7_valueOf_42 (by decide) ?_
    refine lv_istore (lv' := [(6, .int (nI (tel I d e f 6 0 j))), (5, .int (nI 1)), (0, .ref (ad (30, 0, 0, 0))), (1, .int (nI d)), (2, .int (nI e)), (3, .int (nI f)), (4, .int (nI j))]) hx hb dX7_valueOf_47 hl (by decide) rfl (fun ls hl => ?_)
    refine lv_aload_n hx hb dX7_valueOf_49 rfl (lv_at hl 2 rfl) ?_
    refine lv_iload hx hb dX7_valueOf_50 (lv_at hl 0 rfl) ?_
    refine lv_bipush (v := nI 6) hx hb dX7_valueOf_52 (by decide) ?_
    refine n_icmp_ge (tgt := 61) hx hb (by omega) (by omega) dX7_valueOf_54 (by decide) (fun c_54 => ?_) (fun c_54 => ?_)
    · skip
      refine lv_iconst (v := nI 1) hx hb dX7_valueOf_61 (by decide) ?_
      refine x_doneI X h (x_runV X h (k := (30, 0, 0, 0)) (m_X7_fails1 I hL _) F_X7_fails q863 q865 q5 (hL (30, 0, 0, 0) ⟨by decide, rfl, rfl, rfl⟩) rfl rfl rfl (by decide) (by decide) ⟨Nat.le_refl _, Nat.le_refl _⟩ hl.1 (Nat.le_of_ble_eq_true rfl) dX7_valueOf_62 rfl) (fun H locs h => ?_)
      refine b_if_eq (tgt := 72) hx hb dX7_valueOf_65 (by decide) (fun c => (Bool.noConfusion c)) (fun _ => ?_)
      refine lv_iconst (v := nI 0) hx hb dX7_valueOf_68 (by decide) ?_
      refine lv_goto (tgt := 85) hx hb dX7_valueOf_69 (by decide) ?_
      exact x_iret X h hr rfl rfl (fun _ _ => rfl) dX7_valueOf_85
    · skip
      exact absurd h0 (by omega)

set_option maxHeartbeats 4000000 in
set_option maxRecDepth 100000 in
theorem m_X7_valueOf_0 {l : Launch} {D : va_G} {tc : TC} {dz : Nat} {ad : KN → Nat} {Ks : List KN} {gm : GM} (I : Mem) (hL : LV gm Ks) (n : Nat) (hn : I (30, 0, 0, 0) 1 = nI n) (hn10 : n ≤ 10) (d e f j : Nat) (hd : d < 6) (hen : e < n) (hf : f < 4) (hj : j < 2 ^ 31) (hk : nz ((I (34, 0, 0, 0)) (10 * d + e)) = true) (h0 : tel I d e f 6 0 j < 6) : MI l yX7_valueOf cX7_valueOf 7 (Option.some ClassFile.FieldType.int) 3 D tc dz ad Ks (lay tc ad gm dz I) [.ref (ad (30, 0, 0, 0)), .int (nI d), .int (nI e), .int (nI f), .int (nI j)] (mvlI I d e f j) (lay tc ad gm dz (thM I 0)) := by
  intro sz
  refine x_ofW (by decide +kernel) (Nat.le_of_ble_eq_true rfl) (fun pp ee s mm bel meth cd ls X hr hin hz h hl => ?_)
  subst hz
  obtain ⟨hx, hb, hmaxL, hown, hts⟩ := id X.1
  have hl : lv_has ls 7 [(0, .ref (ad (30, 0, 0, 0))), (1, .int (nI d)), (2, .int (nI e)), (3, .int (nI f)), (4, .int (nI j))] := hl
  refine lv_aload_n hx hb dX7_valueOf_0 rfl (lv_at hl 0 rfl) ?_
  refine lv_iload_n hx hb dX7_valueOf_1 rfl (lv_at hl 1 rfl) ?_
  refine lv_iload_n hx hb dX7_valueOf_2 rfl (lv_at hl 2 rfl) ?_
  refine x_doneI X h (x_runV X h (k := (30, 0, 0, 0)) (m_X7_isKnown_in I hL n hn hn10 d e (by omega) (by omega) _) F_X7_isKnown q874 q876 q6 (hL (30, 0, 0, 0) ⟨by decide, rfl, rfl, rfl⟩) rfl rfl rfl (by decide) (by decide) ⟨Nat.le_refl _, Nat.le_refl _⟩ hl.1 (Nat.le_of_ble_eq_true rfl) dX7_valueOf_3 rfl) (fun H locs h => ?_)
  refine b_if_eq (tgt := 25) hx hb dX7_valueOf_6 (by decide) (fun c => by rw [hk] at c; cases c) (fun _ => ?_)
  refine lv_iload_n hx hb dX7_valueOf_9 rfl (lv_at hl 3 rfl) ?_
  refine x_doneI X h (x_runS X h (m_X7_isField_in I f (by omega) _) F_X7_isField q882 q883 rfl (by decide) (by decide) ⟨Nat.le_refl _, Nat.le_refl _⟩ hl.1 (Nat.le_of_ble_eq_true rfl) dX7_valueOf_10 rfl) (fun H locs h => ?_)
  refine b_if_eq (tgt := 25) hx hb dX7_valueOf_13 (by decide) (fun c => (Bool.noConfusion c)) (fun _ => ?_)
  refine lv_iload hx hb dX7_valueOf_16 (lv_at hl 4 rfl) ?_
  refine lv_if_lt (tgt := 25) hx hb dX7_valueOf_18 (by decide) (fun c_18 => ?_) (fun c_18 => ?_)
  · skip
    exact absurd c_18 (nI_pos (by omega))
  · skip
    refine lv_iconst (v := nI 1) hx hb dX7_valueOf_21 (by decide) ?_
    refine lv_goto (tgt := 26) hx hb dX7_valueOf_22 (by decide) ?_
    refine lv_istore (lv' := [(5, .int (nI 1)), (0, .ref (ad (30, 0, 0, 0))), (1, .int (nI d)), (2, .int (nI e)), (3, .int (nI f)), (4, .int (nI j))]) hx hb dX7_valueOf_26 hl (by decide) rfl (fun ls hl => ?_)
    refine lv_iload hx hb dX7_valueOf_28 (lv_at hl 0 rfl) ?_
    refine lv_if_eq (tgt := 45) hx hb dX7_valueOf_30 (by decide) (fun c => absurd c (by decide)) (fun _ => ?_)
    refine lv_aload_n hx hb dX7_valueOf_33 rfl (lv_at hl 1 rfl) ?_
    refine lv_iload_n hx hb dX7_valueOf_34 rfl (lv_at hl 2 rfl) ?_
    refine lv_iload_n hx hb dX7_valueOf_35 rfl (lv_at hl 3 rfl) ?_
    refine lv_iload_n hx hb dX7_valueOf_36 rfl (lv_at hl 4 rfl) ?_
    refine lv_iload hx hb dX7_valueOf_37 (lv_at hl 5 rfl) ?_
    refine x_doneI X h (x_runV X h (k := (30, 0, 0, 0)) (m_X7_teller I hL d e (by omega) (by omega) f j (by omega) (by omega) _) F_X7_teller q979 q981 q24 (hL (30, 0, 0, 0) ⟨by decide, rfl, rfl, rfl⟩) rfl rfl rfl (by decide) (by decide) ⟨Nat.le_refl _, Nat.le_refl _⟩ hl.1 (Nat.le_of_ble_eq_true rfl) dX7_valueOf_39 rfl) (fun H locs h => ?_)
    refine lv_goto (tgt := 47) hx hb dX7_valueOf_42 (by decide) ?_
    refine lv_istore (lv' := [(6, .int (nI (tel I d e f 6 0 j))), (5, .int (nI 1)), (0, .ref (ad (30, 0, 0, 0))), (1, .int (nI d)), (2, .int (nI e)), (3, .int (nI f)), (4, .int (nI j))]) hx hb dX7_valueOf_47 hl (by decide) rfl (fun ls hl => ?_)
    refine lv_aload_n hx hb dX7_valueOf_49 rfl (lv_at hl 2 rfl) ?_
    refine lv_iload hx hb dX7_valueOf_50 (lv_at hl 0 rfl) ?_
    refine lv_bipush (v := nI 6) hx hb dX7_valueOf_52 (by decide) ?_
    refine n_icmp_ge (tgt := 61) hx hb (by omega) (by omega) dX7_valueOf_54 (by decide) (fun c_54 => ?_) (fun c_54 => ?_)
    · skip
      exact absurd h0 (by omega)
    · skip
      refine lv_iconst (v := nI 0) hx hb dX7_valueOf_57 (by decide) ?_
      refine lv_goto (tgt := 62) hx hb dX7_valueOf_58 (by decide) ?_
      refine x_doneI X h (x_runV X h (k := (30, 0, 0, 0)) (m_X7_fails0 I hL _) F_X7_fails q863 q865 q5 (hL (30, 0, 0, 0) ⟨by decide, rfl, rfl, rfl⟩) rfl rfl rfl (by decide) (by decide) ⟨Nat.le_refl _, Nat.le_refl _⟩ hl.1 (Nat.le_of_ble_eq_true rfl) dX7_valueOf_62 rfl) (fun H locs h => ?_)
      refine b_if_eq (tgt := 72) hx hb dX7_valueOf_65 (by decide) (fun _ => ?_) (fun c => (Bool.noConfusion c))
      refine lv_aload_n hx hb dX7_valueOf_72 rfl (lv_at hl 2 rfl) ?_
      refine gf_Model_value X h (hL (30, 0, 0, 0) ⟨by decide, rfl, rfl, rfl⟩) q803 dX7_valueOf_73 ?_
      refine lv_iload_n hx hb dX7_valueOf_76 rfl (lv_at hl 3 rfl) ?_
      refine lv_iload_n hx hb dX7_valueOf_77 rfl (lv_at hl 4 rfl) ?_
      refine lv_iload_n hx hb dX7_valueOf_78 rfl (lv_at hl 5 rfl) ?_
      refine lv_iload hx hb dX7_valueOf_79 (lv_at hl 0 rfl) ?_
      refine x_doneI X h (x_runS X h (m_X7_place (thM I 0) d e f (tel I d e f 6 0 j) _) F_X7_place q893 q894 rfl (by decide) (by decide) ⟨Nat.le_refl _, Nat.le_refl _⟩ hl.1 (Nat.le_of_ble_eq_true rfl) dX7_valueOf_81 rfl) (fun H locs h => ?_)
      refine y_ald X h (fun _ => rfl) (by decide) (hL (36, 0, 0, 0) ⟨by decide, rfl, rfl, rfl⟩) (by omega) (v := (thM I 0) (36, 0, 0, 0) (24 * (10 * d + e) + 6 * f + (tel I d e f 6 0 j))) rfl dX7_valueOf_84 ?_
      refine x_iret X h hr rfl ?_ (fun _ _ => rfl) dX7_valueOf_85
      · exact congrFun (th_see (by decide)) _

set_option maxHeartbeats 4000000 in
set_option maxRecDepth 100000 in
theorem m_X7_value_1 {l : Launch} {D : va_G} {tc : TC} {dz : Nat} {ad : KN → Nat} {Ks : List KN} {gm : GM} (I : Mem) (hL : LV gm Ks) (n : Nat) (hn : I (30, 0, 0, 0) 1 = nI n) (hn10 : n ≤ 10) (x y z w : Int32) (h0 : (knwB I n x y && (isFld z && !decide (w < 0))) = false) : MI l yX7_value cX7_value 5 (Option.some ClassFile.FieldType.int) 4 D tc dz ad Ks (lay tc ad gm dz I) [.ref (ad (30, 0, 0, 0)), .int x, .int y, .int z, .int w] (nI 0) (lay tc ad gm dz (thM I 1)) := by
  intro sz
  refine x_ofW (by decide +kernel) (Nat.le_of_ble_eq_true rfl) (fun pp ee s mm bel meth cd ls X hr hin hz h hl => ?_)
  subst hz
  obtain ⟨hx, hb, hmaxL, hown, hts⟩ := id X.1
  have hl : lv_has ls 5 [(0, .ref (ad (30, 0, 0, 0))), (1, .int x), (2, .int y), (3, .int z), (4, .int w)] := hl
  refine lv_aload_n hx hb dX7_value_0 rfl (lv_at hl 0 rfl) ?_
  refine lv_iload_n hx hb dX7_value_1 rfl (lv_at hl 1 rfl) ?_
  refine lv_iload_n hx hb dX7_value_2 rfl (lv_at hl 2 rfl) ?_
  refine lv_iload_n hx hb dX7_value_3 rfl (lv_at hl 3 rfl) ?_
  refine lv_iload hx hb dX7_value_4 (lv_at hl 4 rfl) ?_
  refine x_doneI X h (x_runV X h (k := (30, 0, 0, 0)) (m_X7_valueOf_1 I hL n hn hn10 x y z w h0 _) F_X7_valueOf q975 q977 q23 (hL (30, 0, 0, 0) ⟨by decide, rfl, rfl, rfl⟩) rfl rfl rfl (by decide) (by decide) ⟨Nat.le_refl _, Nat.le_refl _⟩ hl.1 (Nat.le_of_ble_eq_true rfl) dX7_value_6 rfl) (fun H locs h => ?_)
  exact x_iret X h hr rfl rfl (fun _ _ => rfl) dX7_value_9

set_option maxHeartbeats 4000000 in
set_option maxRecDepth 100000 in
theorem m_X7_value_2 {l : Launch} {D : va_G} {tc : TC} {dz : Nat} {ad : KN → Nat} {Ks : List KN} {gm : GM} (I : Mem) (hL : LV gm Ks) (n : Nat) (hn : I (30, 0, 0, 0) 1 = nI n) (hn10 : n ≤ 10) (d e f j : Nat) (hd : d < 6) (hen : e < n) (hf : f < 4) (hj : j < 2 ^ 31) (hk : nz ((I (34, 0, 0, 0)) (10 * d + e)) = true) (h0 : tel I d e f 6 0 j = 6) : MI l yX7_value cX7_value 5 (Option.some ClassFile.FieldType.int) 4 D tc dz ad Ks (lay tc ad gm dz I) [.ref (ad (30, 0, 0, 0)), .int (nI d), .int (nI e), .int (nI f), .int (nI j)] (nI 0) (lay tc ad gm dz (thM I 1)) := by
  intro sz
  refine x_ofW (by decide +kernel) (Nat.le_of_ble_eq_true rfl) (fun pp ee s mm bel meth cd ls X hr hin hz h hl => ?_)
  subst hz
  obtain ⟨hx, hb, hmaxL, hown, hts⟩ := id X.1
  have hl : lv_has ls 5 [(0, .ref (ad (30, 0, 0, 0))), (1, .int (nI d)), (2, .int (nI e)), (3, .int (nI f)), (4, .int (nI j))] := hl
  refine lv_aload_n hx hb dX7_value_0 rfl (lv_at hl 0 rfl) ?_
  refine lv_iload_n hx hb dX7_value_1 rfl (lv_at hl 1 rfl) ?_
  refine lv_iload_n hx hb dX7_value_2 rfl (lv_at hl 2 rfl) ?_
  refine lv_iload_n hx hb dX7_value_3 rfl (lv_at hl 3 rfl) ?_
  refine lv_iload hx hb dX7_value_4 (lv_at hl 4 rfl) ?_
  refine x_doneI X h (x_runV X h (k := (30, 0, 0, 0)) (m_X7_valueOf_2 I hL n hn hn10 d e f j hd hen hf hj hk h0 _) F_X7_valueOf q975 q977 q23 (hL (30, 0, 0, 0) ⟨by decide, rfl, rfl, rfl⟩) rfl rfl rfl (by decide) (by decide) ⟨Nat.le_refl _, Nat.le_refl _⟩ hl.1 (Nat.le_of_ble_eq_true rfl) dX7_value_6 rfl) (fun H locs h => ?_)
  exact x_iret X h hr rfl rfl (fun _ _ => rfl) dX7_value_9

set_option maxHeartbeats 4000000 in
set_option maxRecDepth 100000 in
theorem m_X7_value_0 {l : Launch} {D : va_G} {tc : TC} {dz : Nat} {ad : KN → Nat} {Ks : List KN} {gm : GM} (I : Mem) (hL : LV gm Ks) (n : Nat) (hn : I (30, 0, 0, 0) 1 = nI n) (hn10 : n ≤ 10) (d e f j : Nat) (hd : d < 6) (hen : e < n) (hf : f < 4) (hj : j < 2 ^ 31) (hk : nz ((I (34, 0, 0, 0)) (10 * d + e)) = true) (h0 : tel I d e f 6 0 j < 6) : MI l yX7_value cX7_value 5 (Option.some ClassFile.FieldType.int) 4 D tc dz ad Ks (lay tc ad gm dz I) [.ref (ad (30, 0, 0, 0)), .int (nI d), .int (nI e), .int (nI f), .int (nI j)] (mvlI I d e f j) (lay tc ad gm dz (thM I 0)) := by
  intro sz
  refine x_ofW (by decide +kernel) (Nat.le_of_ble_eq_true rfl) (fun pp ee s mm bel meth cd ls X hr hin hz h hl => ?_)
  subst hz
  obtain ⟨hx, hb, hmaxL, hown, hts⟩ := id X.1
  have hl : lv_has ls 5 [(0, .ref (ad (30, 0, 0, 0))), (1, .int (nI d)), (2, .int (nI e)), (3, .int (nI f)), (4, .int (nI j))] := hl
  refine lv_aload_n hx hb dX7_value_0 rfl (lv_at hl 0 rfl) ?_
  refine lv_iload_n hx hb dX7_value_1 rfl (lv_at hl 1 rfl) ?_
  refine lv_iload_n hx hb dX7_value_2 rfl (lv_at hl 2 rfl) ?_
  refine lv_iload_n hx hb dX7_value_3 rfl (lv_at hl 3 rfl) ?_
  refine lv_iload hx hb dX7_value_4 (lv_at hl 4 rfl) ?_
  refine x_doneI X h (x_runV X h (k := (30, 0, 0, 0)) (m_X7_valueOf_0 I hL n hn hn10 d e f j hd hen hf hj hk h0 _) F_X7_valueOf q975 q977 q23 (hL (30, 0, 0, 0) ⟨by decide, rfl, rfl, rfl⟩) rfl rfl rfl (by decide) (by decide) ⟨Nat.le_refl _, Nat.le_refl _⟩ hl.1 (Nat.le_of_ble_eq_true rfl) dX7_value_6 rfl) (fun H locs h => ?_)
  exact x_iret X h hr rfl rfl (fun _ _ => rfl) dX7_value_9

set_option maxHeartbeats 4000000 in
set_option maxRecDepth 100000 in
theorem m_X7_valueAnew_1 {l : Launch} {D : va_G} {tc : TC} {dz : Nat} {ad : KN → Nat} {Ks : List KN} {gm : GM} (I : Mem) (hL : LV gm Ks) (n : Nat) (hn : I (30, 0, 0, 0) 1 = nI n) (hn10 : n ≤ 10) (x y z w : Int32) (h0 : (knwB I n x y && (isFld z && !decide (w < 0))) = false) : MI l yX7_valueAnew cX7_valueAnew 5 (Option.some ClassFile.FieldType.int) 4 D tc dz ad Ks (lay tc ad gm dz I) [.ref (ad (30, 0, 0, 0)), .int x, .int y, .int z, .int w] (nI 0) (lay tc ad gm dz (thM I 1)) := by
  intro sz
  refine x_ofW (by decide +kernel) (Nat.le_of_ble_eq_true rfl) (fun pp ee s mm bel meth cd ls X hr hin hz h hl => ?_)
  subst hz
  obtain ⟨hx, hb, hmaxL, hown, hts⟩ := id X.1
  have hl : lv_has ls 5 [(0, .ref (ad (30, 0, 0, 0))), (1, .int x), (2, .int y), (3, .int z), (4, .int w)] := hl
  refine lv_aload_n hx hb dX7_valueAnew_0 rfl (lv_at hl 0 rfl) ?_
  refine lv_iload_n hx hb dX7_valueAnew_1 rfl (lv_at hl 1 rfl) ?_
  refine lv_iload_n hx hb dX7_valueAnew_2 rfl (lv_at hl 2 rfl) ?_
  refine lv_iload_n hx hb dX7_valueAnew_3 rfl (lv_at hl 3 rfl) ?_
  refine lv_iload hx hb dX7_valueAnew_4 (lv_at hl 4 rfl) ?_
  refine x_doneI X h (x_runV X h (k := (30, 0, 0, 0)) (m_X7_valueOf_1 I hL n hn hn10 x y z w h0 _) F_X7_valueOf q975 q977 q23 (hL (30, 0, 0, 0) ⟨by decide, rfl, rfl, rfl⟩) rfl rfl rfl (by decide) (by decide) ⟨Nat.le_refl _, Nat.le_refl _⟩ hl.1 (Nat.le_of_ble_eq_true rfl) dX7_valueAnew_6 rfl) (fun H locs h => ?_)
  exact x_iret X h hr rfl rfl (fun _ _ => rfl) dX7_valueAnew_9

set_option maxHeartbeats 4000000 in
set_option maxRecDepth 100000 in
theorem m_X7_valueAnew_2 {l : Launch} {D : va_G} {tc : TC} {dz : Nat} {ad : KN → Nat} {Ks : List KN} {gm : GM} (I : Mem) (hL : LV gm Ks) (n : Nat) (hn : I (30, 0, 0, 0) 1 = nI n) (hn10 : n ≤ 10) (d e f j : Nat) (hd : d < 6) (hen : e < n) (hf : f < 4) (hj : j < 2 ^ 31) (hk : nz ((I (34, 0, 0, 0)) (10 * d + e)) = true) (h0 : tel I d e f 6 0 j = 6) : MI l yX7_valueAnew cX7_valueAnew 5 (Option.some ClassFile.FieldType.int) 4 D tc dz ad Ks (lay tc ad gm dz I) [.ref (ad (30, 0, 0, 0)), .int (nI d), .int (nI e), .int (nI f), .int (nI j)] (nI 0) (lay tc ad gm dz (thM I 1)) := by
  intro sz
  refine x_ofW (by decide +kernel) (Nat.le_of_ble_eq_true rfl) (fun pp ee s mm bel meth cd ls X hr hin hz h hl => ?_)
  subst hz
  obtain ⟨hx, hb, hmaxL, hown, hts⟩ := id X.1
  have hl : lv_has ls 5 [(0, .ref (ad (30, 0, 0, 0))), (1, .int (nI d)), (2, .int (nI e)), (3, .int (nI f)), (4, .int (nI j))] := hl
  refine lv_aload_n hx hb dX7_valueAnew_0 rfl (lv_at hl 0 rfl) ?_
  refine lv_iload_n hx hb dX7_valueAnew_1 rfl (lv_at hl 1 rfl) ?_
  refine lv_iload_n hx hb dX7_valueAnew_2 rfl (lv_at hl 2 rfl) ?_
  refine lv_iload_n hx hb dX7_valueAnew_3 rfl (lv_at hl 3 rfl) ?_
  refine lv_iload hx hb dX7_valueAnew_4 (lv_at hl 4 rfl) ?_
  refine x_doneI X h (x_runV X h (k := (30, 0, 0, 0)) (m_X7_valueOf_2 I hL n hn hn10 d e f j hd hen hf hj hk h0 _) F_X7_valueOf q975 q977 q23 (hL (30, 0, 0, 0) ⟨by decide, rfl, rfl, rfl⟩) rfl rfl rfl (by decide) (by decide) ⟨Nat.le_refl _, Nat.le_refl _⟩ hl.1 (Nat.le_of_ble_eq_true rfl) dX7_valueAnew_6 rfl) (fun H locs h => ?_)
  exact x_iret X h hr rfl rfl (fun _ _ => rfl) dX7_valueAnew_9

set_option maxHeartbeats 4000000 in
set_option maxRecDepth 100000 in
theorem m_X7_valueAnew_0 {l : Launch} {D : va_G} {tc : TC} {dz : Nat} {ad : KN → Nat} {Ks : List KN} {gm : GM} (I : Mem) (hL : LV gm Ks) (n : Nat) (hn : I (30, 0, 0, 0) 1 = nI n) (hn10 : n ≤ 10) (d e f j : Nat) (hd : d < 6) (hen : e < n) (hf : f < 4) (hj : j < 2 ^ 31) (hk : nz ((I (34, 0, 0, 0)) (10 * d + e)) = true) (h0 : tel I d e f 6 0 j < 6) : MI l yX7_valueAnew cX7_valueAnew 5 (Option.some ClassFile.FieldType.int) 4 D tc dz ad Ks (lay tc ad gm dz I) [.ref (ad (30, 0, 0, 0)), .int (nI d), .int (nI e), .int (nI f), .int (nI j)] (mvlI I d e f j) (lay tc ad gm dz (thM I 0)) := by
  intro sz
  refine x_ofW (by decide +kernel) (Nat.le_of_ble_eq_true rfl) (fun pp ee s mm bel meth cd ls X hr hin hz h hl => ?_)
  subst hz
  obtain ⟨hx, hb, hmaxL, hown, hts⟩ := id X.1
  have hl : lv_has ls 5 [(0, .ref (ad (30, 0, 0, 0))), (1, .int (nI d)), (2, .int (nI e)), (3, .int (nI f)), (4, .int (nI j))] := hl
  refine lv_aload_n hx hb dX7_valueAnew_0 rfl (lv_at hl 0 rfl) ?_
  refine lv_iload_n hx hb dX7_valueAnew_1 rfl (lv_at hl 1 rfl) ?_
  refine lv_iload_n hx hb dX7_valueAnew_2 rfl (lv_at hl 2 rfl) ?_
  refine lv_iload_n hx hb dX7_valueAnew_3 rfl (lv_at hl 3 rfl) ?_
  refine lv_iload hx hb dX7_valueAnew_4 (lv_at hl 4 rfl) ?_
  refine x_doneI X h (x_runV X h (k := (30, 0, 0, 0)) (m_X7_valueOf_0 I hL n hn hn10 d e f j hd hen hf hj hk h0 _) F_X7_valueOf q975 q977 q23 (hL (30, 0, 0, 0) ⟨by decide, rfl, rfl, rfl⟩) rfl rfl rfl (by decide) (by decide) ⟨Nat.le_refl _, Nat.le_refl _⟩ hl.1 (Nat.le_of_ble_eq_true rfl) dX7_valueAnew_6 rfl) (fun H locs h => ?_)
  exact x_iret X h hr rfl rfl (fun _ _ => rfl) dX7_valueAnew_9

set_option maxHeartbeats 4000000 in
set_option maxRecDepth 100000 in
theorem m_X7_values_1 {l : Launch} {D : va_G} {tc : TC} {dz : Nat} {ad : KN → Nat} {Ks : List KN} {gm : GM} (I : Mem) (hL : LV gm Ks) (n : Nat) (hn : I (30, 0, 0, 0) 1 = nI n) (hn10 : n ≤ 10) (x y z : Int32) (h0 : (knwB I n x y && isFld z) = false) : MI l yX7_values cX7_values 5 (Option.some ClassFile.FieldType.int) 3 D tc dz ad Ks (lay tc ad gm dz I) [.ref (ad (30, 0, 0, 0)), .int x, .int y, .int z] (nI 0) (lay tc ad gm dz (thM I 1)) := by
  intro sz
  refine x_ofW (by decide +kernel) (Nat.le_of_ble_eq_true rfl) (fun pp ee s mm bel meth cd ls X hr hin hz h hl => ?_)
  subst hz
  obtain ⟨hx, hb, hmaxL, hown, hts⟩ := id X.1
  have hl : lv_has ls 5 [(0, .ref (ad (30, 0, 0, 0))), (1, .int x), (2, .int y), (3, .int z)] := hl
  refine lv_aload_n hx hb dX7_values_0 rfl (lv_at hl 0 rfl) ?_
  refine lv_iload_n hx hb dX7_values_1 rfl (lv_at hl 1 rfl) ?_
  refine lv_iload_n hx hb dX7_values_2 rfl (lv_at hl 2 rfl) ?_
  refine x_doneI X h (x_runV X h (k := (30, 0, 0, 0)) (m_X7_isKnown I hL n hn hn10 x y _) F_X7_isKnown q874 q876 q6 (hL (30, 0, 0, 0) ⟨by decide, rfl, rfl, rfl⟩) rfl rfl rfl (by decide) (by decide) ⟨Nat.le_refl _, Nat.le_refl _⟩ hl.1 (Nat.le_of_ble_eq_true rfl) dX7_values_3 rfl) (fun H locs h => ?_)
  refine b_if_eq (tgt := 20) hx hb dX7_values_6 (by decide) (fun c_6 => ?_) (fun c_6 => ?_)
  · skip
    refine lv_iconst (v := nI 0) hx hb dX7_values_20 (by decide) ?_
    refine lv_istore (lv' := [(4, .int (nI 0)), (0, .ref (ad (30, 0, 0, 0))), (1, .int x), (2, .int y), (3, .int z)]) hx hb dX7_values_21 hl (by decide) rfl (fun ls hl => ?_)
    refine lv_aload_n hx hb dX7_values_23 rfl (lv_at hl 1 rfl) ?_
    refine lv_iload hx hb dX7_values_24 (lv_at hl 0 rfl) ?_
    refine lv_if_eq (tgt := 33) hx hb dX7_values_26 (by decide) (fun _ => ?_) (fun c => absurd c (by decide))
    refine lv_iconst (v := nI 1) hx hb dX7_values_33 (by decide) ?_
    refine x_doneI X h (x_runV X h (k := (30, 0, 0, 0)) (m_X7_fails1 I hL _) F_X7_fails q863 q865 q5 (hL (30, 0, 0, 0) ⟨by decide, rfl, rfl, rfl⟩) rfl rfl rfl (by decide) (by decide) ⟨Nat.le_refl _, Nat.le_refl _⟩ hl.1 (Nat.le_of_ble_eq_true rfl) dX7_values_34 rfl) (fun H locs h => ?_)
    refine b_if_eq (tgt := 44) hx hb dX7_values_37 (by decide) (fun c => (Bool.noConfusion c)) (fun _ => ?_)
    refine lv_iconst (v := nI 0) hx hb dX7_values_40 (by decide) ?_
    refine lv_goto (tgt := 51) hx hb dX7_values_41 (by decide) ?_
    exact x_iret X h hr rfl rfl (fun _ _ => rfl) dX7_values_51
  · skip
    refine lv_iload_n hx hb dX7_values_9 rfl (lv_at hl 3 rfl) ?_
    refine x_doneI X h (x_runS X h (m_X7_isField I z _) F_X7_isField q882 q883 rfl (by decide) (by decide) ⟨Nat.le_refl _, Nat.le_refl _⟩ hl.1 (Nat.le_of_ble_eq_true rfl) dX7_values_10 rfl) (fun H locs h => ?_)
    refine b_if_eq (tgt := 20) hx hb dX7_values_13 (by decide) (fun c_13 => ?_) (fun c_13 => ?_)
    · skip
      refine lv_iconst (v := nI 0) hx hb dX7_values_20 (by decide) ?_
      refine lv_istore (lv' := [(4, .int (nI 0)), (0, .ref (ad (30, 0, 0, 0))), (1, .int x), (2, .int y), (3, .int z)]) hx hb dX7_values_21 hl (by decide) rfl (fun ls hl => ?_)
      refine lv_aload_n hx hb dX7_values_23 rfl (lv_at hl 1 rfl) ?_
      refine lv_iload hx hb dX7_values_24 (lv_at hl 0 rfl) ?_
      refine lv_if_eq (tgt := 33) hx hb dX7_values_26 (by decide) (fun _ => ?_) (fun c => absurd c (by decide))
      refine lv_iconst (v := nI 1) hx hb dX7_values_33 (by decide) ?_
      refine x_doneI X h (x_runV X h (k := (30, 0, 0, 0)) (m_X7_fails1 I hL _) F_X7_fails q863 q865 q5 (hL (30, 0, 0, 0) ⟨by decide, rfl, rfl, rfl⟩) rfl rfl rfl (by decide) (by decide) ⟨Nat.le_refl _, Nat.le_refl _⟩ hl.1 (Nat.le_of_ble_eq_true rfl) dX7_values_34 rfl) (fun H locs h => ?_)
      refine b_if_eq (tgt := 44) hx hb dX7_values_37 (by decide) (fun c => (Bool.noConfusion c)) (fun _ => ?_)
      refine lv_iconst (v := nI 0) hx hb dX7_values_40 (by decide) ?_
      refine lv_goto (tgt := 51) hx hb dX7_values_41 (by decide) ?_
      exact x_iret X h hr rfl rfl (fun _ _ => rfl) dX7_values_51
    · skip
      exact absurd h0 (by rw [c_6, c_13]; decide)

set_option maxHeartbeats 4000000 in
set_option maxRecDepth 100000 in
theorem m_X7_values_0 {l : Launch} {D : va_G} {tc : TC} {dz : Nat} {ad : KN → Nat} {Ks : List KN} {gm : GM} (I : Mem) (hL : LV gm Ks) (n : Nat) (hn : I (30, 0, 0, 0) 1 = nI n) (hn10 : n ≤ 10) (d e f : Nat) (hd : d < 6) (hen : e < n) (hf : f < 4) (hk : nz ((I (34, 0, 0, 0)) (10 * d + e)) = true) : MI l yX7_values cX7_values 5 (Option.some ClassFile.FieldType.int) 3 D tc dz ad Ks (lay tc ad gm dz I) [.ref (ad (30, 0, 0, 0)), .int (nI d), .int (nI e), .int (nI f)] (nI (cnF I d e f)) (lay tc ad gm dz (thM I 0)) := by
  intro sz
  refine x_ofW (by decide +kernel) (Nat.le_of_ble_eq_true rfl) (fun pp ee s mm bel meth cd ls X hr hin hz h hl => ?_)
  subst hz
  obtain ⟨hx, hb, hmaxL, hown, hts⟩ := id X.1
  have hl : lv_has ls 5 [(0, .ref (ad (30, 0, 0, 0))), (1, .int (nI d)), (2, .int (nI e)), (3, .int (nI f))] := hl
  refine lv_aload_n hx hb dX7_values_0 rfl (lv_at hl 0 rfl) ?_
  refine lv_iload_n hx hb dX7_values_1 rfl (lv_at hl 1 rfl) ?_
  refine lv_iload_n hx hb dX7_values_2 rfl (lv_at hl 2 rfl) ?_
  refine x_doneI X h (x_runV X h (k := (30, 0, 0, 0)) (m_X7_isKnown_in I hL n hn hn10 d e (by omega) (by omega) _) F_X7_isKnown q874 q876 q6 (hL (30, 0, 0, 0) ⟨by decide, rfl, rfl, rfl⟩) rfl rfl rfl (by decide) (by decide) ⟨Nat.le_refl _, Nat.le_refl _⟩ hl.1 (Nat.le_of_ble_eq_true rfl) dX7_values_3 rfl) (fun H locs h => ?_)
  refine b_if_eq (tgt := 20) hx hb dX7_values_6 (by decide) (fun c => by rw [hk] at c; cases c) (fun _ => ?_)
  refine lv_iload_n hx hb dX7_values_9 rfl (lv_at hl 3 rfl) ?_
  refine x_doneI X h (x_runS X h (m_X7_isField_in I f (by omega) _) F_X7_isField q882 q883 rfl (by decide) (by decide) ⟨Nat.le_refl _, Nat.le_refl _⟩ hl.1 (Nat.le_of_ble_eq_true rfl) dX7_values_10 rfl) (fun H locs h => ?_)
  refine b_if_eq (tgt := 20) hx hb dX7_values_13 (by decide) (fun c => (Bool.noConfusion c)) (fun _ => ?_)
  refine lv_iconst (v := nI 1) hx hb dX7_values_16 (by decide) ?_
  refine lv_goto (tgt := 21) hx hb dX7_values_17 (by decide) ?_
  refine lv_istore (lv' := [(4, .int (nI 1)), (0, .ref (ad (30, 0, 0, 0))), (1, .int (nI d)), (2, .int (nI e)), (3, .int (nI f))]) hx hb dX7_values_21 hl (by decide) rfl (fun ls hl => ?_)
  refine lv_aload_n hx hb dX7_values_23 rfl (lv_at hl 1 rfl) ?_
  refine lv_iload hx hb dX7_values_24 (lv_at hl 0 rfl) ?_
  refine lv_if_eq (tgt := 33) hx hb dX7_values_26 (by decide) (fun c => absurd c (by decide)) (fun _ => ?_)
  refine lv_iconst (v := nI 0) hx hb dX7_values_29 (by decide) ?_
  refine lv_goto (tgt := 34) hx hb dX7_values_30 (by decide) ?_
  refine x_doneI X h (x_runV X h (k := (30, 0, 0, 0)) (m_X7_fails0 I hL _) F_X7_fails q863 q865 q5 (hL (30, 0, 0, 0) ⟨by decide, rfl, rfl, rfl⟩) rfl rfl rfl (by decide) (by decide) ⟨Nat.le_refl _, Nat.le_refl _⟩ hl.1 (Nat.le_of_ble_eq_true rfl) dX7_values_34 rfl) (fun H locs h => ?_)
  refine b_if_eq (tgt := 44) hx hb dX7_values_37 (by decide) (fun _ => ?_) (fun c => (Bool.noConfusion c))
  refine lv_aload_n hx hb dX7_values_44 rfl (lv_at hl 1 rfl) ?_
  refine lv_iload_n hx hb dX7_values_45 rfl (lv_at hl 2 rfl) ?_
  refine lv_iload_n hx hb dX7_values_46 rfl (lv_at hl 3 rfl) ?_
  refine lv_iload_n hx hb dX7_values_47 rfl (lv_at hl 4 rfl) ?_
  refine x_doneI X h (x_runV X h (k := (30, 0, 0, 0)) (m_X7_count (thM I 0) hL d e (by omega) (by omega) f (by omega) _) F_X7_count q889 q891 q9 (hL (30, 0, 0, 0) ⟨by decide, rfl, rfl, rfl⟩) rfl rfl rfl (by decide) (by decide) ⟨Nat.le_refl _, Nat.le_refl _⟩ hl.1 (Nat.le_of_ble_eq_true rfl) dX7_values_48 rfl) (fun H locs h => ?_)
  refine x_iret X h hr rfl ?_ (fun _ _ => rfl) dX7_values_51
  · exact congrArg nI (cnF_congr (th_see (by decide)) d e f)

set_option maxHeartbeats 4000000 in
set_option maxRecDepth 100000 in
theorem m_X7_seen_1 {l : Launch} {D : va_G} {tc : TC} {dz : Nat} {ad : KN → Nat} {Ks : List KN} {gm : GM} (I : Mem) (hL : LV gm Ks) (n : Nat) (hn : I (30, 0, 0, 0) 1 = nI n) (hn10 : n ≤ 10) (x y z w : Int32) (h0 : (knwB I n x y && (isFld z && isDev w)) = false) : MI l yX7_seen cX7_seen 6 (Option.some ClassFile.FieldType.int) 3 D tc dz ad Ks (lay tc ad gm dz I) [.ref (ad (30, 0, 0, 0)), .int x, .int y, .int z, .int w] (nI 0) (lay tc ad gm dz (thM I 1)) := by
  intro sz
  refine x_ofW (by decide +kernel) (Nat.le_of_ble_eq_true rfl) (fun pp ee s mm bel meth cd ls X hr hin hz h hl => ?_)
  subst hz
  obtain ⟨hx, hb, hmaxL, hown, hts⟩ := id X.1
  have hl : lv_has ls 6 [(0, .ref (ad (30, 0, 0, 0))), (1, .int x), (2, .int y), (3, .int z), (4, .int w)] := hl
  refine lv_aload_n hx hb dX7_seen_0 rfl (lv_at hl 0 rfl) ?_
  refine lv_iload_n hx hb dX7_seen_1 rfl (lv_at hl 1 rfl) ?_
  refine lv_iload_n hx hb dX7_seen_2 rfl (lv_at hl 2 rfl) ?_
  refine x_doneI X h (x_runV X h (k := (30, 0, 0, 0)) (m_X7_isKnown I hL n hn hn10 x y _) F_X7_isKnown q874 q876 q6 (hL (30, 0, 0, 0) ⟨by decide, rfl, rfl, rfl⟩) rfl rfl rfl (by decide) (by decide) ⟨Nat.le_refl _, Nat.le_refl _⟩ hl.1 (Nat.le_of_ble_eq_true rfl) dX7_seen_3 rfl) (fun H locs h => ?_)
  refine b_if_eq (tgt := 28) hx hb dX7_seen_6 (by decide) (fun c_6 => ?_) (fun c_6 => ?_)
  · skip
    refine lv_iconst (v := nI 0) hx hb dX7_seen_28 (by decide) ?_
    refine lv_istore (lv' := [(5, .int (nI 0)), (0, .ref (ad (30, 0, 0, 0))), (1, .int x), (2, .int y), (3, .int z), (4, .int w)]) hx hb dX7_seen_29 hl (by decide) rfl (fun ls hl => ?_)
    refine lv_aload_n hx hb dX7_seen_31 rfl (lv_at hl 1 rfl) ?_
    refine lv_iload hx hb dX7_seen_32 (lv_at hl 0 rfl) ?_
    refine lv_if_eq (tgt := 41) hx hb dX7_seen_34 (by decide) (fun _ => ?_) (fun c => absurd c (by decide))
    refine lv_iconst (v := nI 1) hx hb dX7_seen_41 (by decide) ?_
    refine x_doneI X h (x_runV X h (k := (30, 0, 0, 0)) (m_X7_fails1 I hL _) F_X7_fails q863 q865 q5 (hL (30, 0, 0, 0) ⟨by decide, rfl, rfl, rfl⟩) rfl rfl rfl (by decide) (by decide) ⟨Nat.le_refl _, Nat.le_refl _⟩ hl.1 (Nat.le_of_ble_eq_true rfl) dX7_seen_42 rfl) (fun H locs h => ?_)
    refine b_if_eq (tgt := 52) hx hb dX7_seen_45 (by decide) (fun c => (Bool.noConfusion c)) (fun _ => ?_)
    refine lv_iconst (v := nI 0) hx hb dX7_seen_48 (by decide) ?_
    refine lv_goto (tgt := 65) hx hb dX7_seen_49 (by decide) ?_
    exact x_iret X h hr rfl rfl (fun _ _ => rfl) dX7_seen_65
  · skip
    refine lv_iload_n hx hb dX7_seen_9 rfl (lv_at hl 3 rfl) ?_
    refine x_doneI X h (x_runS X h (m_X7_isField I z _) F_X7_isField q882 q883 rfl (by decide) (by decide) ⟨Nat.le_refl _, Nat.le_refl _⟩ hl.1 (Nat.le_of_ble_eq_true rfl) dX7_seen_10 rfl) (fun H locs h => ?_)
    refine b_if_eq (tgt := 28) hx hb dX7_seen_13 (by decide) (fun c_13 => ?_) (fun c_13 => ?_)
    · skip
      refine lv_iconst (v := nI 0) hx hb dX7_seen_28 (by decide) ?_
      refine lv_istore (lv' := [(5, .int (nI 0)), (0, .ref (ad (30, 0, 0, 0))), (1, .int x), (2, .int y), (3, .int z), (4, .int w)]) hx hb dX7_seen_29 hl (by decide) rfl (fun ls hl => ?_)
      refine lv_aload_n hx hb dX7_seen_31 rfl (lv_at hl 1 rfl) ?_
      refine lv_iload hx hb dX7_seen_32 (lv_at hl 0 rfl) ?_
      refine lv_if_eq (tgt := 41) hx hb dX7_seen_34 (by decide) (fun _ => ?_) (fun c => absurd c (by decide))
      refine lv_iconst (v := nI 1) hx hb dX7_seen_41 (by decide) ?_
      refine x_doneI X h (x_runV X h (k := (30, 0, 0, 0)) (m_X7_fails1 I hL _) F_X7_fails q863 q865 q5 (hL (30, 0, 0, 0) ⟨by decide, rfl, rfl, rfl⟩) rfl rfl rfl (by decide) (by decide) ⟨Nat.le_refl _, Nat.le_refl _⟩ hl.1 (Nat.le_of_ble_eq_true rfl) dX7_seen_42 rfl) (fun H locs h => ?_)
      refine b_if_eq (tgt := 52) hx hb dX7_seen_45 (by decide) (fun c => (Bool.noConfusion c)) (fun _ => ?_)
      refine lv_iconst (v := nI 0) hx hb dX7_seen_48 (by decide) ?_
      refine lv_goto (tgt := 65) hx hb dX7_seen_49 (by decide) ?_
      exact x_iret X h hr rfl rfl (fun _ _ => rfl) dX7_seen_65
    · skip
      refine lv_iload hx hb dX7_seen_16 (lv_at hl 4 rfl) ?_
      refine x_doneI X h (x_runS X h (m_X7_isDevice I w _) F_X7_isDevice q857 q858 rfl (by decide) (by decide) ⟨Nat.le_refl _, Nat.le_refl _⟩ hl.1 (Nat.le_of_ble_eq_true rfl) dX7_seen_18 rfl) (fun H locs h => ?_)
      refine b_if_eq (tgt := 28) hx hb dX7_seen_21 (by decide) (fun c_21 => ?_) (fun c_21 => ?_)
      · skip
        refine lv_iconst (v := nI 0) hx hb dX7_seen_28 (by decide) ?_
        refine lv_istore (lv' := [(5, .int (nI 0)), (0, .ref (ad (30, 0, 0, 0))), (1, .int x), (2, .int y), (3, .int z), (4, .int w)]) hx hb dX7_seen_29 hl (by decide) rfl (fun ls hl => ?_)
        refine lv_aload_n hx hb dX7_seen_31 rfl (lv_at hl 1 rfl) ?_
        refine lv_iload hx hb dX7_seen_32 (lv_at hl 0 rfl) ?_
        refine lv_if_eq (tgt := 41) hx hb dX7_seen_34 (by decide) (fun _ => ?_) (fun c => absurd c (by decide))
        refine lv_iconst (v := nI 1) hx hb dX7_seen_41 (by decide) ?_
        refine x_doneI X h (x_runV X h (k := (30, 0, 0, 0)) (m_X7_fails1 I hL _) F_X7_fails q863 q865 q5 (hL (30, 0, 0, 0) ⟨by decide, rfl, rfl, rfl⟩) rfl rfl rfl (by decide) (by decide) ⟨Nat.le_refl _, Nat.le_refl _⟩ hl.1 (Nat.le_of_ble_eq_true rfl) dX7_seen_42 rfl) (fun H locs h => ?_)
        refine b_if_eq (tgt := 52) hx hb dX7_seen_45 (by decide) (fun c => (Bool.noConfusion c)) (fun _ => ?_)
        refine lv_iconst (v := nI 0) hx hb dX7_seen_48 (by decide) ?_
        refine lv_goto (tgt := 65) hx hb dX7_seen_49 (by decide) ?_
        exact x_iret X h hr rfl rfl (fun _ _ => rfl) dX7_seen_65
      · skip
        exact absurd h0 (by rw [c_6, c_13, c_21]; decide)

set_option maxHeartbeats 4000000 in
set_option maxRecDepth 100000 in
theorem m_X7_seen_0 {l : Launch} {D : va_G} {tc : TC} {dz : Nat} {ad : KN → Nat} {Ks : List KN} {gm : GM} (I : Mem) (hL : LV gm Ks) (n : Nat) (hn : I (30, 0, 0, 0) 1 = nI n) (hn10 : n ≤ 10) (d e f j : Nat) (hd : d < 6) (hen : e < n) (hf : f < 4) (hj : j < 6) (hk : nz ((I (34, 0, 0, 0)) (10 * d + e)) = true) : MI l yX7_seen cX7_seen 6 (Option.some ClassFile.FieldType.int) 3 D tc dz ad Ks (lay tc ad gm dz I) [.ref (ad (30, 0, 0, 0)), .int (nI d), .int (nI e), .int (nI f), .int (nI j)] ((I (37, 0, 0, 0)) (24 * (10 * d + e) + 6 * f + j)) (lay tc ad gm dz (thM I 0)) := by
  intro sz
  refine x_ofW (by decide +kernel) (Nat.le_of_ble_eq_true rfl) (fun pp ee s mm bel meth cd ls X hr hin hz h hl => ?_)
  subst hz
  obtain ⟨hx, hb, hmaxL, hown, hts⟩ := id X.1
  have hl : lv_has ls 6 [(0, .ref (ad (30, 0, 0, 0))), (1, .int (nI d)), (2, .int (nI e)), (3, .int (nI f)), (4, .int (nI j))] := hl
  refine lv_aload_n hx hb dX7_seen_0 rfl (lv_at hl 0 rfl) ?_
  refine lv_iload_n hx hb dX7_seen_1 rfl (lv_at hl 1 rfl) ?_
  refine lv_iload_n hx hb dX7_seen_2 rfl (lv_at hl 2 rfl) ?_
  refine x_doneI X h (x_runV X h (k := (30, 0, 0, 0)) (m_X7_isKnown_in I hL n hn hn10 d e (by omega) (by omega) _) F_X7_isKnown q874 q876 q6 (hL (30, 0, 0, 0) ⟨by decide, rfl, rfl, rfl⟩) rfl rfl rfl (by decide) (by decide) ⟨Nat.le_refl _, Nat.le_refl _⟩ hl.1 (Nat.le_of_ble_eq_true rfl) dX7_seen_3 rfl) (fun H locs h => ?_)
  refine b_if_eq (tgt := 28) hx hb dX7_seen_6 (by decide) (fun c => by rw [hk] at c; cases c) (fun _ => ?_)
  refine lv_iload_n hx hb dX7_seen_9 rfl (lv_at hl 3 rfl) ?_
  refine x_doneI X h (x_runS X h (m_X7_isField_in I f (by omega) _) F_X7_isField q882 q883 rfl (by decide) (by decide) ⟨Nat.le_refl _, Nat.le_refl _⟩ hl.1 (Nat.le_of_ble_eq_true rfl) dX7_seen_10 rfl) (fun H locs h => ?_)
  refine b_if_eq (tgt := 28) hx hb dX7_seen_13 (by decide) (fun c => (Bool.noConfusion c)) (fun _ => ?_)
  refine lv_iload hx hb dX7_seen_16 (lv_at hl 4 rfl) ?_
  refine x_doneI X h (x_runS X h (m_X7_isDevice_in I j (by omega) _) F_X7_isDevice q857 q858 rfl (by decide) (by decide) ⟨Nat.le_refl _, Nat.le_refl _⟩ hl.1 (Nat.le_of_ble_eq_true rfl) dX7_seen_18 rfl) (fun H locs h => ?_)
  refine b_if_eq (tgt := 28) hx hb dX7_seen_21 (by decide) (fun c => (Bool.noConfusion c)) (fun _ => ?_)
  refine lv_iconst (v := nI 1) hx hb dX7_seen_24 (by decide) ?_
  refine lv_goto (tgt := 29) hx hb dX7_seen_25 (by decide) ?_
  refine lv_istore (lv' := [(5, .int (nI 1)), (0, .ref (ad (30, 0, 0, 0))), (1, .int (nI d)), (2, .int (nI e)), (3, .int (nI f)), (4, .int (nI j))]) hx hb dX7_seen_29 hl (by decide) rfl (fun ls hl => ?_)
  refine lv_aload_n hx hb dX7_seen_31 rfl (lv_at hl 1 rfl) ?_
  refine lv_iload hx hb dX7_seen_32 (lv_at hl 0 rfl) ?_
  refine lv_if_eq (tgt := 41) hx hb dX7_seen_34 (by decide) (fun c => absurd c (by decide)) (fun _ => ?_)
  refine lv_iconst (v := nI 0) hx hb dX7_seen_37 (by decide) ?_
  refine lv_goto (tgt := 42) hx hb dX7_seen_38 (by decide) ?_
  refine x_doneI X h (x_runV X h (k := (30, 0, 0, 0)) (m_X7_fails0 I hL _) F_X7_fails q863 q865 q5 (hL (30, 0, 0, 0) ⟨by decide, rfl, rfl, rfl⟩) rfl rfl rfl (by decide) (by decide) ⟨Nat.le_refl _, Nat.le_refl _⟩ hl.1 (Nat.le_of_ble_eq_true rfl) dX7_seen_42 rfl) (fun H locs h => ?_)
  refine b_if_eq (tgt := 52) hx hb dX7_seen_45 (by decide) (fun _ => ?_) (fun c => (Bool.noConfusion c))
  refine lv_aload_n hx hb dX7_seen_52 rfl (lv_at hl 1 rfl) ?_
  refine gf_Model_seen X h (hL (30, 0, 0, 0) ⟨by decide, rfl, rfl, rfl⟩) q804 dX7_seen_53 ?_
  refine lv_iload_n hx hb dX7_seen_56 rfl (lv_at hl 2 rfl) ?_
  refine lv_iload_n hx hb dX7_seen_57 rfl (lv_at hl 3 rfl) ?_
  refine lv_iload_n hx hb dX7_seen_58 rfl (lv_at hl 4 rfl) ?_
  refine lv_iload hx hb dX7_seen_59 (lv_at hl 5 rfl) ?_
  refine x_doneI X h (x_runS X h (m_X7_place (thM I 0) d e f j _) F_X7_place q893 q894 rfl (by decide) (by decide) ⟨Nat.le_refl _, Nat.le_refl _⟩ hl.1 (Nat.le_of_ble_eq_true rfl) dX7_seen_61 rfl) (fun H locs h => ?_)
  refine y_ald X h (fun _ => rfl) (by decide) (hL (37, 0, 0, 0) ⟨by decide, rfl, rfl, rfl⟩) (by omega) (v := (thM I 0) (37, 0, 0, 0) (24 * (10 * d + e) + 6 * f + j)) rfl dX7_seen_64 ?_
  refine x_iret X h hr rfl ?_ (fun _ _ => rfl) dX7_seen_65
  · exact congrFun (th_see (by decide)) _

set_option maxHeartbeats 4000000 in
set_option maxRecDepth 100000 in
theorem m_X7_marks_1 {l : Launch} {D : va_G} {tc : TC} {dz : Nat} {ad : KN → Nat} {Ks : List KN} {gm : GM} (I : Mem) (hL : LV gm Ks) (n : Nat) (hn : I (30, 0, 0, 0) 1 = nI n) (hn10 : n ≤ 10) (x y : Int32) (h0 : knwB I n x y = false) : MI l yX7_marks cX7_marks 6 (Option.some ClassFile.FieldType.int) 3 D tc dz ad Ks (lay tc ad gm dz I) [.ref (ad (30, 0, 0, 0)), .int x, .int y] (nI 0) (lay tc ad gm dz (thM I 1)) := by
  intro sz
  refine x_ofW (by decide +kernel) (Nat.le_of_ble_eq_true rfl) (fun pp ee s mm bel meth cd ls X hr hin hz h hl => ?_)
  subst hz
  obtain ⟨hx, hb, hmaxL, hown, hts⟩ := id X.1
  have hl : lv_has ls 6 [(0, .ref (ad (30, 0, 0, 0))), (1, .int x), (2, .int y)] := hl
  refine lv_aload_n hx hb dX7_marks_0 rfl (lv_at hl 0 rfl) ?_
  refine lv_aload_n hx hb dX7_marks_1 rfl (lv_at hl 0 rfl) ?_
  refine lv_iload_n hx hb dX7_marks_2 rfl (lv_at hl 1 rfl) ?_
  refine lv_iload_n hx hb dX7_marks_3 rfl (lv_at hl 2 rfl) ?_
  refine x_doneI X h (x_runV X h (k := (30, 0, 0, 0)) (m_X7_isKnown I hL n hn hn10 x y _) F_X7_isKnown q874 q876 q6 (hL (30, 0, 0, 0) ⟨by decide, rfl, rfl, rfl⟩) rfl rfl rfl (by decide) (by decide) ⟨Nat.le_refl _, Nat.le_refl _⟩ hl.1 (Nat.le_of_ble_eq_true rfl) dX7_marks_4 rfl) (fun H locs h => ?_)
  refine b_if_eq (tgt := 14) hx hb dX7_marks_7 (by decide) (fun _ => ?_) (fun c => by rw [h0] at c; cases c)
  refine lv_iconst (v := nI 1) hx hb dX7_marks_14 (by decide) ?_
  refine x_doneI X h (x_runV X h (k := (30, 0, 0, 0)) (m_X7_fails1 I hL _) F_X7_fails q863 q865 q5 (hL (30, 0, 0, 0) ⟨by decide, rfl, rfl, rfl⟩) rfl rfl rfl (by decide) (by decide) ⟨Nat.le_refl _, Nat.le_refl _⟩ hl.1 (Nat.le_of_ble_eq_true rfl) dX7_marks_15 rfl) (fun H locs h => ?_)
  refine b_if_eq (tgt := 23) hx hb dX7_marks_18 (by decide) (fun c => (Bool.noConfusion c)) (fun _ => ?_)
  refine lv_iconst (v := nI 0) hx hb dX7_marks_21 (by decide) ?_
  exact x_iret X h hr rfl rfl (fun _ _ => rfl) dX7_marks_22

set_option maxHeartbeats 4000000 in
set_option maxRecDepth 100000 in
theorem m_X7_marks_0 {l : Launch} {D : va_G} {tc : TC} {dz : Nat} {ad : KN → Nat} {Ks : List KN} {gm : GM} (I : Mem) (hL : LV gm Ks) (n : Nat) (hn : I (30, 0, 0, 0) 1 = nI n) (hn10 : n ≤ 10) (m : Nat) (hmm : I (30, 0, 0, 0) 2 = nI m) (hm5 : m ≤ 1000) (d e : Nat) (hd : d < 6) (hen : e < n) (hk : nz ((I (34, 0, 0, 0)) (10 * d + e)) = true) : MI l yX7_marks cX7_marks 6 (Option.some ClassFile.FieldType.int) 3 D tc dz ad Ks (lay tc ad gm dz I) [.ref (ad (30, 0, 0, 0)), .int (nI d), .int (nI e)] (mmkR (thM I 0) d e m) (lay tc ad gm dz (thM I 0)) := by
  intro sz
  refine x_ofW (by decide +kernel) (Nat.le_of_ble_eq_true rfl) (fun pp ee s mm bel meth cd ls X hr hin hz h hl => ?_)
  subst hz
  obtain ⟨hx, hb, hmaxL, hown, hts⟩ := id X.1
  have hl : lv_has ls 6 [(0, .ref (ad (30, 0, 0, 0))), (1, .int (nI d)), (2, .int (nI e))] := hl
  refine lv_aload_n hx hb dX7_marks_0 rfl (lv_at hl 0 rfl) ?_
  refine lv_aload_n hx hb dX7_marks_1 rfl (lv_at hl 0 rfl) ?_
  refine lv_iload_n hx hb dX7_marks_2 rfl (lv_at hl 1 rfl) ?_
  refine lv_iload_n hx hb dX7_marks_3 rfl (lv_at hl 2 rfl) ?_
  refine x_doneI X h (x_runV X h (k := (30, 0, 0, 0)) (m_X7_isKnown_in I hL n hn hn10 d e (by omega) (by omega) _) F_X7_isKnown q874 q876 q6 (hL (30, 0, 0, 0) ⟨by decide, rfl, rfl, rfl⟩) rfl rfl rfl (by decide) (by decide) ⟨Nat.le_refl _, Nat.le_refl _⟩ hl.1 (Nat.le_of_ble_eq_true rfl) dX7_marks_4 rfl) (fun H locs h => ?_)
  refine b_if_eq (tgt := 14) hx hb dX7_marks_7 (by decide) (fun c => by rw [hk] at c; cases c) (fun _ => ?_)
  refine lv_iconst (v := nI 0) hx hb dX7_marks_10 (by decide) ?_
  refine lv_goto (tgt := 15) hx hb dX7_marks_11 (by decide) ?_
  refine x_doneI X h (x_runV X h (k := (30, 0, 0, 0)) (m_X7_fails0 I hL _) F_X7_fails q863 q865 q5 (hL (30, 0, 0, 0) ⟨by decide, rfl, rfl, rfl⟩) rfl rfl rfl (by decide) (by decide) ⟨Nat.le_refl _, Nat.le_refl _⟩ hl.1 (Nat.le_of_ble_eq_true rfl) dX7_marks_15 rfl) (fun H locs h => ?_)
  refine b_if_eq (tgt := 23) hx hb dX7_marks_18 (by decide) (fun _ => ?_) (fun c => (Bool.noConfusion c))
  refine lv_iconst (v := nI 0) hx hb dX7_marks_23 (by decide) ?_
  refine lv_istore_n (lv' := [(3, .int (nI 0)), (0, .ref (ad (30, 0, 0, 0))), (1, .int (nI d)), (2, .int (nI e))]) hx hb dX7_marks_24 rfl hl (by decide) rfl (fun ls hl => ?_)
  refine lv_iconst (v := nI 0) hx hb dX7_marks_25 (by decide) ?_
  refine lv_istore (lv' := [(4, .int (nI 0)), (3, .int (nI 0)), (0, .ref (ad (30, 0, 0, 0))), (1, .int (nI d)), (2, .int (nI e))]) hx hb dX7_marks_26 hl (by decide) rfl (fun ls hl => ?_)
  refine lv_iconst (v := nI 0) hx hb dX7_marks_28 (by decide) ?_
  refine lv_istore (lv' := [(5, .int (nI 0)), (4, .int (nI 0)), (3, .int (nI 0)), (0, .ref (ad (30, 0, 0, 0))), (1, .int (nI d)), (2, .int (nI e))]) hx hb dX7_marks_29 hl (by decide) rfl (fun ls hl => ?_)
  refine y_loop (D := D) (A := wA ad Ks s.heap.size) (ad := ad) (Ks := Ks) (nL := 6) (fun i : Nat => lay tc ad gm dz (thM I 0)) (fun i => [(5, .int (nI i)), (4, .int (lasI (thM I 0) d e i)), (3, .int (nI (agN (thM I 0) d e i))), (2, .int (nI e)), (1, .int (nI d)), (0, .ref (ad (30, 0, 0, 0)))]) (fun _ => []) (fun i : Nat => i ≤ m) (fun i => m - i) (fun i hi31 ih31 H locs ls h hl => ?_) 0 (Nat.zero_le _) (h.eq (congrArg (lay tc ad gm dz) rfl)) (lv_sub hl [0, 1, 2, 5, 4, 3] rfl) rfl
  have h : Sx D (wA ad Ks s.heap.size) ad Ks (lay tc ad gm dz (thM I 0)) s H locs := h
  have hl : lv_has ls 6 [(5, .int (nI i)), (4, .int (lasI (thM I 0) d e i)), (3, .int (nI (agN (thM I 0) d e i))), (2, .int (nI e)), (1, .int (nI d)), (0, .ref (ad (30, 0, 0, 0)))] := hl
  refine lv_iload hx hb dX7_marks_31 (lv_at hl 0 rfl) ?_
  refine lv_aload_n hx hb dX7_marks_33 rfl (lv_at hl 5 rfl) ?_
  refine gf_Model_marks X h (hL (30, 0, 0, 0) ⟨by decide, rfl, rfl, rfl⟩) q807 (v := nI m) ((th_30 (by decide)).trans hmm) dX7_marks_34 ?_
  refine n_icmp_ge (tgt := 89) hx hb (by omega) (by omega) dX7_marks_37 (by decide) (fun c_37 => ?_) (fun c_37 => ?_)
  · skip
    have him : m = i := by omega
    subst him
    refine lv_aload_n hx hb dX7_marks_89 rfl (lv_at hl 5 rfl) ?_
    refine gf_Model_month X h (hL (30, 0, 0, 0) ⟨by decide, rfl, rfl, rfl⟩) q796 (v := (thM I 0) (30, 0, 0, 0) 0) rfl dX7_marks_90 ?_
    refine lv_iconst (v := nI 1) hx hb dX7_marks_93 (by decide) ?_
    refine lv_iadd hx hb dX7_marks_94 ?_
    refine lv_iload hx hb dX7_marks_95 (lv_at hl 1 rfl) ?_
    refine lv_isub hx hb dX7_marks_97 ?_
    refine lv_istore (lv' := [(5, .int ((((thM I 0) (30, 0, 0, 0) 0) + (nI 1)) - (lasI (thM I 0) d e m))), (4, .int (lasI (thM I 0) d e m)), (3, .int (nI (agN (thM I 0) d e m))), (2, .int (nI e)), (1, .int (nI d)), (0, .ref (ad (30, 0, 0, 0)))]) hx hb dX7_marks_98 hl (by decide) rfl (fun ls hl => ?_)
    refine lv_iload_n hx hb dX7_marks_100 rfl (lv_at hl 2 rfl) ?_
    have hca := agN_le (thM I 0) d e m
    refine n_if_ne (tgt := 108) hx hb (by omega) dX7_marks_101 (by decide) (fun c_101 => ?_) (fun c_101 => ?_)
    · skip
      refine lv_bipush (v := nI 100) hx hb dX7_marks_108 (by decide) ?_
      refine lv_iload_n hx hb dX7_marks_110 rfl (lv_at hl 2 rfl) ?_
      refine n_imul hx hb dX7_marks_111 ?_
      refine lv_iload hx hb dX7_marks_112 (lv_at hl 0 rfl) ?_
      refine lv_bipush (v := nI 99) hx hb dX7_marks_114 (by decide) ?_
      refine lv_icmp_le (tgt := 124) hx hb dX7_marks_116 (by decide) (fun c_116 => ?_) (fun c_116 => ?_)
      · skip
        refine lv_iload hx hb dX7_marks_124 (lv_at hl 0 rfl) ?_
        refine lv_iadd hx hb dX7_marks_126 ?_
        refine x_iret X h hr rfl ?_ (fun _ _ => rfl) dX7_marks_127
        · rw [mmkR, if_neg (by omega), if_pos c_116] <;> rfl
      · skip
        refine lv_bipush (v := nI 99) hx hb dX7_marks_119 (by decide) ?_
        refine lv_goto (tgt := 126) hx hb dX7_marks_121 (by decide) ?_
        refine n_iadd hx hb dX7_marks_126 ?_
        refine x_iret X h hr rfl ?_ (fun _ _ => rfl) dX7_marks_127
        · rw [mmkR, if_neg (by omega), if_neg c_116] <;> rfl
    · skip
      refine lv_iconst (v := nI 0) hx hb dX7_marks_104 (by decide) ?_
      refine lv_goto (tgt := 127) hx hb dX7_marks_105 (by decide) ?_
      refine x_iret X h hr rfl ?_ (fun _ _ => rfl) dX7_marks_127
      · rw [mmkR, if_pos (by omega)]
  · skip
    refine lv_aload_n hx hb dX7_marks_40 rfl (lv_at hl 5 rfl) ?_
    refine gf_Model_markOf X h (hL (30, 0, 0, 0) ⟨by decide, rfl, rfl, rfl⟩) q808 dX7_marks_41 ?_
    refine lv_iload hx hb dX7_marks_44 (lv_at hl 0 rfl) ?_
    refine y_ald X h (fun _ => rfl) (by decide) (hL (40, 0, 0, 0) ⟨by decide, rfl, rfl, rfl⟩) (by omega) (v := (thM I 0) (40, 0, 0, 0) i) rfl dX7_marks_46 ?_
    refine lv_iload_n hx hb dX7_marks_47 rfl (lv_at hl 3 rfl) ?_
    refine lv_icmp_ne (tgt := 83) hx hb dX7_marks_48 (by decide) (fun c_48 => ?_) (fun c_48 => ?_)
    · skip
      have hcn : nI (agN (thM I 0) d e (i + 1)) = nI (agN (thM I 0) d e i) := by simp only [agN, cntN, mo, c_37, c_48, decide_true, decide_false, Bool.not_true, Bool.not_false, Bool.and_true, Bool.and_false, Bool.true_and, Bool.false_and, Bool.or_true, Bool.or_false, Bool.true_or, Bool.false_or, Bool.and_self, Bool.or_self, ↓reduceIte, Bool.false_eq_true, not_false_eq_true, not_true_eq_false] <;> rfl
      have hl : lv_has ls 6 [(5, .int (nI i)), (4, .int (lasI (thM I 0) d e i)), (3, .int (nI (agN (thM I 0) d e (i + 1)))), (2, .int (nI e)), (1, .int (nI d)), (0, .ref (ad (30, 0, 0, 0)))] := by rw [hcn]; exact hl
      have hcn : lasI (thM I 0) d e (i + 1) = lasI (thM I 0) d e i := by simp only [lasI, mo, c_37, c_48, decide_true, decide_false, Bool.not_true, Bool.not_false, Bool.and_true, Bool.and_false, Bool.true_and, Bool.false_and, Bool.or_true, Bool.or_false, Bool.true_or, Bool.false_or, Bool.and_self, Bool.or_self, ↓reduceIte, Bool.false_eq_true, not_false_eq_true, not_true_eq_false] <;> rfl
      have hl : lv_has ls 6 [(5, .int (nI i)), (4, .int (lasI (thM I 0) d e (i + 1))), (3, .int (nI (agN (thM I 0) d e (i + 1)))), (2, .int (nI e)), (1, .int (nI d)), (0, .ref (ad (30, 0, 0, 0)))] := by rw [hcn]; exact hl
      refine n_iinc (j := i) (n := 1) (lv' := [(5, .int (nI (i + 1))), (4, .int (lasI (thM I 0) d e (i + 1))), (3, .int (nI (agN (thM I 0) d e (i + 1)))), (2, .int (nI e)), (1, .int (nI d)), (0, .ref (ad (30, 0, 0, 0)))]) hx hb dX7_marks_83 hl (k := 0) rfl (by decide) (by decide) rfl (fun ls hl => ?_)
      refine lv_goto (tgt := 31) hx hb dX7_marks_86 (by decide) ?_
      exact ih31 (i + 1) (by omega) (by omega) H locs ls (h.eq (congrArg (lay tc ad gm dz) rfl)) (lv_sub hl [0, 1, 2, 3, 4, 5] rfl)
    · skip
      refine lv_aload_n hx hb dX7_marks_51 rfl (lv_at hl 5 rfl) ?_
      refine lv_iload_n hx hb dX7_marks_52 rfl (lv_at hl 4 rfl) ?_
      refine lv_iload hx hb dX7_marks_53 (lv_at hl 0 rfl) ?_
      refine x_doneI X h (x_runV X h (k := (30, 0, 0, 0)) (m_X7_isKnownMark (thM I 0) hL d i (by omega) (by omega) _) F_X7_isKnownMark q912 q914 q13 (hL (30, 0, 0, 0) ⟨by decide, rfl, rfl, rfl⟩) rfl rfl rfl (by decide) (by decide) ⟨Nat.le_refl _, Nat.le_refl _⟩ hl.1 (Nat.le_of_ble_eq_true rfl) dX7_marks_55 rfl) (fun H locs h => ?_)
      refine b_if_eq (tgt := 83) hx hb dX7_marks_58 (by decide) (fun c_58 => ?_) (fun c_58 => ?_)
      · skip
        have hcn : nI (agN (thM I 0) d e (i + 1)) = nI (agN (thM I 0) d e i) := by simp only [agN, cntN, mo, c_37, eq_true c_48, c_58, decide_true, decide_false, Bool.not_true, Bool.not_false, Bool.and_true, Bool.and_false, Bool.true_and, Bool.false_and, Bool.or_true, Bool.or_false, Bool.true_or, Bool.false_or, Bool.and_self, Bool.or_self, ↓reduceIte, Bool.false_eq_true, not_false_eq_true, not_true_eq_false] <;> rfl
        have hl : lv_has ls 6 [(5, .int (nI i)), (4, .int (lasI (thM I 0) d e i)), (3, .int (nI (agN (thM I 0) d e (i + 1)))), (2, .int (nI e)), (1, .int (nI d)), (0, .ref (ad (30, 0, 0, 0)))] := by rw [hcn]; exact hl
        have hcn : lasI (thM I 0) d e (i + 1) = lasI (thM I 0) d e i := by simp only [lasI, mo, c_37, eq_true c_48, c_58, decide_true, decide_false, Bool.not_true, Bool.not_false, Bool.and_true, Bool.and_false, Bool.true_and, Bool.false_and, Bool.or_true, Bool.or_false, Bool.true_or, Bool.false_or, Bool.and_self, Bool.or_self, ↓reduceIte, Bool.false_eq_true, not_false_eq_true, not_true_eq_false] <;> rfl
        have hl : lv_has ls 6 [(5, .int (nI i)), (4, .int (lasI (thM I 0) d e (i + 1))), (3, .int (nI (agN (thM I 0) d e (i + 1)))), (2, .int (nI e)), (1, .int (nI d)), (0, .ref (ad (30, 0, 0, 0)))] := by rw [hcn]; exact hl
        refine n_iinc (j := i) (n := 1) (lv' := [(5, .int (nI (i + 1))), (4, .int (lasI (thM I 0) d e (i + 1))), (3, .int (nI (agN (thM I 0) d e (i + 1)))), (2, .int (nI e)), (1, .int (nI d)), (0, .ref (ad (30, 0, 0, 0)))]) hx hb dX7_marks_83 hl (k := 0) rfl (by decide) (by decide) rfl (fun ls hl => ?_)
        refine lv_goto (tgt := 31) hx hb dX7_marks_86 (by decide) ?_
        exact ih31 (i + 1) (by omega) (by omega) H locs ls (h.eq (congrArg (lay tc ad gm dz) rfl)) (lv_sub hl [0, 1, 2, 3, 4, 5] rfl)
      · skip
        refine n_iinc (j := (agN (thM I 0) d e i)) (n := 1) (lv' := [(3, .int (nI ((agN (thM I 0) d e i) + 1))), (5, .int (nI i)), (4, .int (lasI (thM I 0) d e i)), (2, .int (nI e)), (1, .int (nI d)), (0, .ref (ad (30, 0, 0, 0)))]) hx hb dX7_marks_61 hl (k := 2) rfl (by decide) (by decide) rfl (fun ls hl => ?_)
        refine lv_iload hx hb dX7_marks_64 (lv_at hl 2 rfl) ?_
        refine lv_aload_n hx hb dX7_marks_66 rfl (lv_at hl 5 rfl) ?_
        refine gf_Model_since X h (hL (30, 0, 0, 0) ⟨by decide, rfl, rfl, rfl⟩) q810 dX7_marks_67 ?_
        refine lv_bipush (v := nI 6) hx hb dX7_marks_70 (by decide) ?_
        refine lv_iload hx hb dX7_marks_72 (lv_at hl 1 rfl) ?_
        refine n_imul hx hb dX7_marks_74 ?_
        refine lv_iload_n hx hb dX7_marks_75 rfl (lv_at hl 4 rfl) ?_
        refine n_iadd hx hb dX7_marks_76 ?_
        refine y_ald X h (fun _ => rfl) (by decide) (hL (42, 0, 0, 0) ⟨by decide, rfl, rfl, rfl⟩) (by omega) (v := (thM I 0) (42, 0, 0, 0) ((6 * i) + d)) rfl dX7_marks_77 ?_
        refine x_doneI X h (x_runS X h (m_X7_greater (thM I 0) (lasI (thM I 0) d e i) ((thM I 0) (42, 0, 0, 0) ((6 * i) + d)) _) F_X7_greater q940 q941 rfl (by decide) (by decide) ⟨Nat.le_refl _, Nat.le_refl _⟩ hl.1 (Nat.le_of_ble_eq_true rfl) dX7_marks_78 rfl) (fun H locs h => ?_)
        refine lv_istore (lv' := [(4, .int (imax (lasI (thM I 0) d e i) ((thM I 0) (42, 0, 0, 0) ((6 * i) + d)))), (3, .int (nI ((agN (thM I 0) d e i) + 1))), (5, .int (nI i)), (2, .int (nI e)), (1, .int (nI d)), (0, .ref (ad (30, 0, 0, 0)))]) hx hb dX7_marks_81 hl (by decide) rfl (fun ls hl => ?_)
        have hcn : nI (agN (thM I 0) d e (i + 1)) = nI ((agN (thM I 0) d e i) + 1) := by simp only [agN, cntN, mo, c_37, eq_true c_48, c_58, decide_true, decide_false, Bool.not_true, Bool.not_false, Bool.and_true, Bool.and_false, Bool.true_and, Bool.false_and, Bool.or_true, Bool.or_false, Bool.true_or, Bool.false_or, Bool.and_self, Bool.or_self, ↓reduceIte, Bool.false_eq_true, not_false_eq_true, not_true_eq_false] <;> rfl
        have hl : lv_has ls 6 [(4, .int (imax (lasI (thM I 0) d e i) ((thM I 0) (42, 0, 0, 0) ((6 * i) + d)))), (3, .int (nI (agN (thM I 0) d e (i + 1)))), (5, .int (nI i)), (2, .int (nI e)), (1, .int (nI d)), (0, .ref (ad (30, 0, 0, 0)))] := by rw [hcn]; exact hl
        have hcn : lasI (thM I 0) d e (i + 1) = imax (lasI (thM I 0) d e i) ((thM I 0) (42, 0, 0, 0) ((6 * i) + d)) := by simp only [lasI, mo, c_37, eq_true c_48, c_58, decide_true, decide_false, Bool.not_true, Bool.not_false, Bool.and_true, Bool.and_false, Bool.true_and, Bool.false_and, Bool.or_true, Bool.or_false, Bool.true_or, Bool.false_or, Bool.and_self, Bool.or_self, ↓reduceIte, Bool.false_eq_true, not_false_eq_true, not_true_eq_false] <;> rfl
        have hl : lv_has ls 6 [(4, .int (lasI (thM I 0) d e (i + 1))), (3, .int (nI (agN (thM I 0) d e (i + 1)))), (5, .int (nI i)), (2, .int (nI e)), (1, .int (nI d)), (0, .ref (ad (30, 0, 0, 0)))] := by rw [hcn]; exact hl
        refine n_iinc (j := i) (n := 1) (lv' := [(5, .int (nI (i + 1))), (4, .int (lasI (thM I 0) d e (i + 1))), (3, .int (nI (agN (thM I 0) d e (i + 1)))), (2, .int (nI e)), (1, .int (nI d)), (0, .ref (ad (30, 0, 0, 0)))]) hx hb dX7_marks_83 hl (k := 2) rfl (by decide) (by decide) rfl (fun ls hl => ?_)
        refine lv_goto (tgt := 31) hx hb dX7_marks_86 (by decide) ?_
        exact ih31 (i + 1) (by omega) (by omega) H locs ls (h.eq (congrArg (lay tc ad gm dz) rfl)) (lv_sub hl [0, 1, 2, 3, 4, 5] rfl)

set_option maxHeartbeats 4000000 in
set_option maxRecDepth 100000 in
theorem m_X7_clashes_1 {l : Launch} {D : va_G} {tc : TC} {dz : Nat} {ad : KN → Nat} {Ks : List KN} {gm : GM} (I : Mem) (hL : LV gm Ks) (x : Int32) (h0 : isDev x = false) : MI l yX7_clashes cX7_clashes 5 (Option.some ClassFile.FieldType.int) 2 D tc dz ad Ks (lay tc ad gm dz I) [.ref (ad (30, 0, 0, 0)), .int x] (nI 0) (lay tc ad gm dz (thM I 1)) := by
  intro sz
  refine x_ofW (by decide +kernel) (Nat.le_of_ble_eq_true rfl) (fun pp ee s mm bel meth cd ls X hr hin hz h hl => ?_)
  subst hz
  obtain ⟨hx, hb, hmaxL, hown, hts⟩ := id X.1
  have hl : lv_has ls 5 [(0, .ref (ad (30, 0, 0, 0))), (1, .int x)] := hl
  refine lv_aload_n hx hb dX7_clashes_0 rfl (lv_at hl 0 rfl) ?_
  refine lv_iload_n hx hb dX7_clashes_1 rfl (lv_at hl 1 rfl) ?_
  refine x_doneI X h (x_runS X h (m_X7_isDevice I x _) F_X7_isDevice q857 q858 rfl (by decide) (by decide) ⟨Nat.le_refl _, Nat.le_refl _⟩ hl.1 (Nat.le_of_ble_eq_true rfl) dX7_clashes_2 rfl) (fun H locs h => ?_)
  refine b_if_eq (tgt := 12) hx hb dX7_clashes_5 (by decide) (fun _ => ?_) (fun c => by rw [h0] at c; cases c)
  refine lv_iconst (v := nI 1) hx hb dX7_clashes_12 (by decide) ?_
  refine x_doneI X h (x_runV X h (k := (30, 0, 0, 0)) (m_X7_fails1 I hL _) F_X7_fails q863 q865 q5 (hL (30, 0, 0, 0) ⟨by decide, rfl, rfl, rfl⟩) rfl rfl rfl (by decide) (by decide) ⟨Nat.le_refl _, Nat.le_refl _⟩ hl.1 (Nat.le_of_ble_eq_true rfl) dX7_clashes_13 rfl) (fun H locs h => ?_)
  refine b_if_eq (tgt := 21) hx hb dX7_clashes_16 (by decide) (fun c => (Bool.noConfusion c)) (fun _ => ?_)
  refine lv_iconst (v := nI 0) hx hb dX7_clashes_19 (by decide) ?_
  exact x_iret X h hr rfl rfl (fun _ _ => rfl) dX7_clashes_20

set_option maxHeartbeats 4000000 in
set_option maxRecDepth 100000 in
theorem m_X7_clashes_0 {l : Launch} {D : va_G} {tc : TC} {dz : Nat} {ad : KN → Nat} {Ks : List KN} {gm : GM} (I : Mem) (hL : LV gm Ks) (n : Nat) (hn : I (30, 0, 0, 0) 1 = nI n) (hn10 : n ≤ 10) (m : Nat) (hmm : I (30, 0, 0, 0) 2 = nI m) (hm5 : m ≤ 1000) (d : Nat) (hd : d < 6) : MI l yX7_clashes cX7_clashes 5 (Option.some ClassFile.FieldType.int) 4 D tc dz ad Ks (lay tc ad gm dz I) [.ref (ad (30, 0, 0, 0)), .int (nI d)] (nI (mclN (thM I 0) d m n)) (lay tc ad gm dz (thM I 0)) := by
  intro sz
  refine x_ofW (by decide +kernel) (Nat.le_of_ble_eq_true rfl) (fun pp ee s mm bel meth cd ls X hr hin hz h hl => ?_)
  subst hz
  obtain ⟨hx, hb, hmaxL, hown, hts⟩ := id X.1
  have hl : lv_has ls 5 [(0, .ref (ad (30, 0, 0, 0))), (1, .int (nI d))] := hl
  refine lv_aload_n hx hb dX7_clashes_0 rfl (lv_at hl 0 rfl) ?_
  refine lv_iload_n hx hb dX7_clashes_1 rfl (lv_at hl 1 rfl) ?_
  refine x_doneI X h (x_runS X h (m_X7_isDevice_in I d (by omega) _) F_X7_isDevice q857 q858 rfl (by decide) (by decide) ⟨Nat.le_refl _, Nat.le_refl _⟩ hl.1 (Nat.le_of_ble_eq_true rfl) dX7_clashes_2 rfl) (fun H locs h => ?_)
  refine b_if_eq (tgt := 12) hx hb dX7_clashes_5 (by decide) (fun c => (Bool.noConfusion c)) (fun _ => ?_)
  refine lv_iconst (v := nI 0) hx hb dX7_clashes_8 (by decide) ?_
  refine lv_goto (tgt := 13) hx hb dX7_clashes_9 (by decide) ?_
  refine x_doneI X h (x_runV X h (k := (30, 0, 0, 0)) (m_X7_fails0 I hL _) F_X7_fails q863 q865 q5 (hL (30, 0, 0, 0) ⟨by decide, rfl, rfl, rfl⟩) rfl rfl rfl (by decide) (by decide) ⟨Nat.le_refl _, Nat.le_refl _⟩ hl.1 (Nat.le_of_ble_eq_true rfl) dX7_clashes_13 rfl) (fun H locs h => ?_)
  refine b_if_eq (tgt := 21) hx hb dX7_clashes_16 (by decide) (fun _ => ?_) (fun c => (Bool.noConfusion c))
  refine lv_iconst (v := nI 0) hx hb dX7_clashes_21 (by decide) ?_
  refine lv_istore_n (lv' := [(2, .int (nI 0)), (0, .ref (ad (30, 0, 0, 0))), (1, .int (nI d))]) hx hb dX7_clashes_22 rfl hl (by decide) rfl (fun ls hl => ?_)
  refine lv_iconst (v := nI 0) hx hb dX7_clashes_23 (by decide) ?_
  refine lv_istore_n (lv' := [(3, .int (nI 0)), (2, .int (nI 0)), (0, .ref (ad (30, 0, 0, 0))), (1, .int (nI d))]) hx hb dX7_clashes_24 rfl hl (by decide) rfl (fun ls hl => ?_)
  refine y_loop (D := D) (A := wA ad Ks s.heap.size) (ad := ad) (Ks := Ks) (nL := 5) (fun i : Nat => lay tc ad gm dz (thM I 0)) (fun i => [(3, .int (nI i)), (2, .int (nI (mclN (thM I 0) d m i))), (1, .int (nI d)), (0, .ref (ad (30, 0, 0, 0)))]) (fun _ => []) (fun i : Nat => i ≤ n) (fun i => n - i) (fun i hi25 ih25 H locs ls h hl => ?_) 0 (Nat.zero_le _) (h.eq (congrArg (lay tc ad gm dz) rfl)) (lv_sub hl [0, 1, 3, 2] rfl) rfl
  have h : Sx D (wA ad Ks s.heap.size) ad Ks (lay tc ad gm dz (thM I 0)) s H locs := h
  have hl : lv_has ls 5 [(3, .int (nI i)), (2, .int (nI (mclN (thM I 0) d m i))), (1, .int (nI d)), (0, .ref (ad (30, 0, 0, 0)))] := hl
  refine lv_iload_n hx hb dX7_clashes_25 rfl (lv_at hl 0 rfl) ?_
  refine lv_aload_n hx hb dX7_clashes_26 rfl (lv_at hl 3 rfl) ?_
  refine gf_Model_entries X h (hL (30, 0, 0, 0) ⟨by decide, rfl, rfl, rfl⟩) q798 (v := nI n) ((th_30 (by decide)).trans hn) dX7_clashes_27 ?_
  refine n_icmp_ge (tgt := 83) hx hb (by omega) (by omega) dX7_clashes_30 (by decide) (fun c_30 => ?_) (fun c_30 => ?_)
  · skip
    have him : n = i := by omega
    subst him
    refine lv_iload_n hx hb dX7_clashes_83 rfl (lv_at hl 1 rfl) ?_
    exact x_iret X h hr rfl rfl (fun _ _ => rfl) dX7_clashes_84
  · skip
    refine lv_iconst (v := nI 0) hx hb dX7_clashes_33 (by decide) ?_
    refine lv_istore (lv' := [(4, .int (nI 0)), (3, .int (nI i)), (2, .int (nI (mclN (thM I 0) d m i))), (1, .int (nI d)), (0, .ref (ad (30, 0, 0, 0)))]) hx hb dX7_clashes_34 hl (by decide) rfl (fun ls hl => ?_)
    refine y_loop (D := D) (A := wA ad Ks s.heap.size) (ad := ad) (Ks := Ks) (nL := 5) (fun j : Nat => lay tc ad gm dz (thM I 0)) (fun j => [(4, .int (nI j)), (3, .int (nI i)), (2, .int (nI (mclN (thM I 0) d m i + mclE (thM I 0) d i m j))), (1, .int (nI d)), (0, .ref (ad (30, 0, 0, 0)))]) (fun _ => []) (fun j : Nat => j ≤ 4) (fun j => 4 - j) (fun j hi36 ih36 H locs ls h hl => ?_) 0 (Nat.zero_le _) (h.eq (congrArg (lay tc ad gm dz) rfl)) (lv_sub hl [0, 1, 2, 3, 4] rfl) rfl
    have h : Sx D (wA ad Ks s.heap.size) ad Ks (lay tc ad gm dz (thM I 0)) s H locs := h
    have hl : lv_has ls 5 [(4, .int (nI j)), (3, .int (nI i)), (2, .int (nI (mclN (thM I 0) d m i + mclE (thM I 0) d i m j))), (1, .int (nI d)), (0, .ref (ad (30, 0, 0, 0)))] := hl
    refine lv_iload hx hb dX7_clashes_36 (lv_at hl 0 rfl) ?_
    refine lv_iconst (v := nI 4) hx hb dX7_clashes_38 (by decide) ?_
    refine n_icmp_ge (tgt := 77) hx hb (by omega) (by omega) dX7_clashes_39 (by decide) (fun c_39 => ?_) (fun c_39 => ?_)
    · skip
      obtain rfl : j = 4 := by omega
      have hcn : nI (mclN (thM I 0) d m (i + 1)) = nI (mclN (thM I 0) d m i + mclE (thM I 0) d i m 4) := by rfl
      have hl : lv_has ls 5 [(4, .int (nI 4)), (3, .int (nI i)), (2, .int (nI (mclN (thM I 0) d m (i + 1)))), (1, .int (nI d)), (0, .ref (ad (30, 0, 0, 0)))] := by rw [hcn]; exact hl
      refine n_iinc (j := i) (n := 1) (lv' := [(3, .int (nI (i + 1))), (4, .int (nI 4)), (2, .int (nI (mclN (thM I 0) d m (i + 1)))), (1, .int (nI d)), (0, .ref (ad (30, 0, 0, 0)))]) hx hb dX7_clashes_77 hl (k := 1) rfl (by decide) (by decide) rfl (fun ls hl => ?_)
      refine lv_goto (tgt := 25) hx hb dX7_clashes_80 (by decide) ?_
      exact ih25 (i + 1) (by omega) (by omega) H locs ls (h.eq (congrArg (lay tc ad gm dz) rfl)) (lv_sub hl [0, 2, 3, 4] rfl)
    · skip
      refine lv_iload_n hx hb dX7_clashes_42 rfl (lv_at hl 2 rfl) ?_
      refine lv_aload_n hx hb dX7_clashes_43 rfl (lv_at hl 4 rfl) ?_
      refine lv_iload_n hx hb dX7_clashes_44 rfl (lv_at hl 3 rfl) ?_
      refine lv_iload_n hx hb dX7_clashes_45 rfl (lv_at hl 1 rfl) ?_
      refine x_doneI X h (x_runV X h (k := (30, 0, 0, 0)) (m_X7_isThere (thM I 0) hL d i (by omega) (by omega) m (by first | exact hmm | (rw [th_30 (by decide)]; exact hmm) | (simp only [sset_ne _ _ (nek (by decide) : ((30, 0, 0, 0) : KN) ≠ (31, 0, 0, 0)), sset_ne _ _ (nek (by decide) : ((30, 0, 0, 0) : KN) ≠ (32, 0, 0, 0)), sset_ne _ _ (nek (by decide) : ((30, 0, 0, 0) : KN) ≠ (33, 0, 0, 0)), sset_ne _ _ (nek (by decide) : ((30, 0, 0, 0) : KN) ≠ (34, 0, 0, 0)), sset_ne _ _ (nek (by decide) : ((30, 0, 0, 0) : KN) ≠ (35, 0, 0, 0)), sset_ne _ _ (nek (by decide) : ((30, 0, 0, 0) : KN) ≠ (36, 0, 0, 0)), sset_ne _ _ (nek (by decide) : ((30, 0, 0, 0) : KN) ≠ (37, 0, 0, 0)), sset_ne _ _ (nek (by decide) : ((30, 0, 0, 0) : KN) ≠ (38, 0, 0, 0)), sset_ne _ _ (nek (by decide) : ((30, 0, 0, 0) : KN) ≠ (39, 0, 0, 0)), sset_ne _ _ (nek (by decide) : ((30, 0, 0, 0) : KN) ≠ (40, 0, 0, 0)), sset_ne _ _ (nek (by decide) : ((30, 0, 0, 0) : KN) ≠ (41, 0, 0, 0)), sset_ne _ _ (nek (by decide) : ((30, 0, 0, 0) : KN) ≠ (42, 0, 0, 0)), sset_eq, upd, ↓reduceIte]; first | exact hmm | (rw [th_30 (by decide)]; exact hmm))) hm5 _) F_X7_isThere q900 q902 q10 (hL (30, 0, 0, 0) ⟨by decide, rfl, rfl, rfl⟩) rfl rfl rfl (by decide) (by decide) ⟨Nat.le_refl _, Nat.le_refl _⟩ hl.1 (Nat.le_of_ble_eq_true rfl) dX7_clashes_46 rfl) (fun H locs h => ?_)
      refine b_if_eq (tgt := 68) hx hb dX7_clashes_49 (by decide) (fun c_49 => ?_) (fun c_49 => ?_)
      · skip
        refine lv_iconst (v := nI 0) hx hb dX7_clashes_68 (by decide) ?_
        refine n_iadd hx hb dX7_clashes_69 ?_
        refine lv_istore_n (lv' := [(2, .int (nI ((mclN (thM I 0) d m i + mclE (thM I 0) d i m j) + 0))), (4, .int (nI j)), (3, .int (nI i)), (1, .int (nI d)), (0, .ref (ad (30, 0, 0, 0)))]) hx hb dX7_clashes_70 rfl hl (by decide) rfl (fun ls hl => ?_)
        have hcn : nI (mclN (thM I 0) d m i + mclE (thM I 0) d i m (j + 1)) = nI ((mclN (thM I 0) d m i + mclE (thM I 0) d i m j) + 0) := by simp only [mclE, c_30, c_39, c_49, decide_true, decide_false, Bool.not_true, Bool.not_false, Bool.and_true, Bool.and_false, Bool.true_and, Bool.false_and, Bool.or_true, Bool.or_false, Bool.true_or, Bool.false_or, Bool.and_self, Bool.or_self, ↓reduceIte, Bool.false_eq_true, not_false_eq_true, not_true_eq_false] <;> rfl
        have hl : lv_has ls 5 [(2, .int (nI (mclN (thM I 0) d m i + mclE (thM I 0) d i m (j + 1)))), (4, .int (nI j)), (3, .int (nI i)), (1, .int (nI d)), (0, .ref (ad (30, 0, 0, 0)))] := by rw [hcn]; exact hl
        refine n_iinc (j := j) (n := 1) (lv' := [(4, .int (nI (j + 1))), (2, .int (nI (mclN (thM I 0) d m i + mclE (thM I 0) d i m (j + 1)))), (3, .int (nI i)), (1, .int (nI d)), (0, .ref (ad (30, 0, 0, 0)))]) hx hb dX7_clashes_71 hl (k := 1) rfl (by decide) (by decide) rfl (fun ls hl => ?_)
        refine lv_goto (tgt := 36) hx hb dX7_clashes_74 (by decide) ?_
        exact ih36 (j + 1) (by omega) (by omega) H locs ls (h.eq (congrArg (lay tc ad gm dz) rfl)) (lv_sub hl [0, 2, 1, 3, 4] rfl)
      · skip
        refine lv_aload_n hx hb dX7_clashes_52 rfl (lv_at hl 4 rfl) ?_
        refine lv_iload_n hx hb dX7_clashes_53 rfl (lv_at hl 3 rfl) ?_
        refine lv_iload_n hx hb dX7_clashes_54 rfl (lv_at hl 1 rfl) ?_
        refine lv_iload hx hb dX7_clashes_55 (lv_at hl 0 rfl) ?_
        refine x_doneI X h (x_runV X h (k := (30, 0, 0, 0)) (m_X7_count (thM I 0) hL d i (by omega) (by omega) j (by omega) _) F_X7_count q889 q891 q9 (hL (30, 0, 0, 0) ⟨by decide, rfl, rfl, rfl⟩) rfl rfl rfl (by decide) (by decide) ⟨Nat.le_refl _, Nat.le_refl _⟩ hl.1 (Nat.le_of_ble_eq_true rfl) dX7_clashes_57 rfl) (fun H locs h => ?_)
        refine lv_iconst (v := nI 1) hx hb dX7_clashes_60 (by decide) ?_
        have hcf := cnF_le (thM I 0) d i j
        refine n_icmp_le (tgt := 68) hx hb (by omega) (by omega) dX7_clashes_61 (by decide) (fun c_61 => ?_) (fun c_61 => ?_)
        · skip
          have c_61 : ¬ (1 < cnF (thM I 0) d i j) := by omega
          refine lv_iconst (v := nI 0) hx hb dX7_clashes_68 (by decide) ?_
          refine n_iadd hx hb dX7_clashes_69 ?_
          refine lv_istore_n (lv' := [(2, .int (nI ((mclN (thM I 0) d m i + mclE (thM I 0) d i m j) + 0))), (4, .int (nI j)), (3, .int (nI i)), (1, .int (nI d)), (0, .ref (ad (30, 0, 0, 0)))]) hx hb dX7_clashes_70 rfl hl (by decide) rfl (fun ls hl => ?_)
          have hcn : nI (mclN (thM I 0) d m i + mclE (thM I 0) d i m (j + 1)) = nI ((mclN (thM I 0) d m i + mclE (thM I 0) d i m j) + 0) := by simp only [mclE, c_30, c_39, c_49, c_61, decide_true, decide_false, Bool.not_true, Bool.not_false, Bool.and_true, Bool.and_false, Bool.true_and, Bool.false_and, Bool.or_true, Bool.or_false, Bool.true_or, Bool.false_or, Bool.and_self, Bool.or_self, ↓reduceIte, Bool.false_eq_true, not_false_eq_true, not_true_eq_false] <;> rfl
          have hl : lv_has ls 5 [(2, .int (nI (mclN (thM I 0) d m i + mclE (thM I 0) d i m (j + 1)))), (4, .int (nI j)), (3, .int (nI i)), (1, .int (nI d)), (0, .ref (ad (30, 0, 0, 0)))] := by rw [hcn]; exact hl
          refine n_iinc (j := j) (n := 1) (lv' := [(4, .int (nI (j + 1))), (2, .int (nI (mclN (thM I 0) d m i + mclE (thM I 0) d i m (j + 1)))), (3, .int (nI i)), (1, .int (nI d)), (0, .ref (ad (30, 0, 0, 0)))]) hx hb dX7_clashes_71 hl (k := 1) rfl (by decide) (by decide) rfl (fun ls hl => ?_)
          refine lv_goto (tgt := 36) hx hb dX7_clashes_74 (by decide) ?_
          exact ih36 (j + 1) (by omega) (by omega) H locs ls (h.eq (congrArg (lay tc ad gm dz) rfl)) (lv_sub hl [0, 2, 1, 3, 4] rfl)
        · skip
          have c_61 : 1 < cnF (thM I 0) d i j := by omega
          refine lv_iconst (v := nI 1) hx hb dX7_clashes_64 (by decide) ?_
          refine lv_goto (tgt := 69) hx hb dX7_clashes_65 (by decide) ?_
          refine n_iadd hx hb dX7_clashes_69 ?_
          refine lv_istore_n (lv' := [(2, .int (nI ((mclN (thM I 0) d m i + mclE (thM I 0) d i m j) + 1))), (4, .int (nI j)), (3, .int (nI i)), (1, .int (nI d)), (0, .ref (ad (30, 0, 0, 0)))]) hx hb dX7_clashes_70 rfl hl (by decide) rfl (fun ls hl => ?_)
          have hcn : nI (mclN (thM I 0) d m i + mclE (thM I 0) d i m (j + 1)) = nI ((mclN (thM I 0) d m i + mclE (thM I 0) d i m j) + 1) := by simp only [mclE, c_30, c_39, c_49, c_61, decide_true, decide_false, Bool.not_true, Bool.not_false, Bool.and_true, Bool.and_false, Bool.true_and, Bool.false_and, Bool.or_true, Bool.or_false, Bool.true_or, Bool.false_or, Bool.and_self, Bool.or_self, ↓reduceIte, Bool.false_eq_true, not_false_eq_true, not_true_eq_false] <;> rfl
          have hl : lv_has ls 5 [(2, .int (nI (mclN (thM I 0) d m i + mclE (thM I 0) d i m (j + 1)))), (4, .int (nI j)), (3, .int (nI i)), (1, .int (nI d)), (0, .ref (ad (30, 0, 0, 0)))] := by rw [hcn]; exact hl
          refine n_iinc (j := j) (n := 1) (lv' := [(4, .int (nI (j + 1))), (2, .int (nI (mclN (thM I 0) d m i + mclE (thM I 0) d i m (j + 1)))), (3, .int (nI i)), (1, .int (nI d)), (0, .ref (ad (30, 0, 0, 0)))]) hx hb dX7_clashes_71 hl (k := 1) rfl (by decide) (by decide) rfl (fun ls hl => ?_)
          refine lv_goto (tgt := 36) hx hb dX7_clashes_74 (by decide) ?_
          exact ih36 (j + 1) (by omega) (by omega) H locs ls (h.eq (congrArg (lay tc ad gm dz) rfl)) (lv_sub hl [0, 2, 1, 3, 4] rfl)

def agF (same all : Nat) : UInt32 := if all = 0 then FP.fconst1 else FP.fdiv (FP.i2f (nI same)) (FP.i2f (nI all))
set_option maxRecDepth 100000 in
theorem fdiv_all : ∀ a, a < 41 → ∀ b, b < 41 → 0 < b → FP.fdiv (FP.i2f (nI a)) (FP.i2f (nI b)) &&& 0x7fffffff ≤ 0x7f800000 := by decide +kernel
theorem fdiv_n {a b : Nat} (ha : a ≤ 40) (hb : b ≤ 40) (h0 : 0 < b) : vf_n32 (FP.fdiv (FP.i2f (nI a)) (FP.i2f (nI b))) := fdiv_all a (by omega) b (by omega) h0

set_option maxHeartbeats 4000000 in
set_option maxRecDepth 100000 in
theorem m_X7_agreement_1 {l : Launch} {D : va_G} {tc : TC} {dz : Nat} {ad : KN → Nat} {Ks : List KN} {gm : GM} (I : Mem) (hL : LV gm Ks) (x y : Int32) (h0 : (isDev x && isDev y) = false) : MF l yX7_agreement cX7_agreement 8 (Option.some ClassFile.FieldType.float) 2 D tc dz ad Ks (lay tc ad gm dz I) [.ref (ad (30, 0, 0, 0)), .int x, .int y] FP.fconst0 (lay tc ad gm dz (thM I 1)) := by
  intro sz
  refine x_ofW (by decide +kernel) (Nat.le_of_ble_eq_true rfl) (fun pp ee s mm bel meth cd ls X hr hin hz h hl => ?_)
  subst hz
  obtain ⟨hx, hb, hmaxL, hown, hts⟩ := id X.1
  have hl : lv_has ls 8 [(0, .ref (ad (30, 0, 0, 0))), (1, .int x), (2, .int y)] := hl
  refine lv_iload_n hx hb dX7_agreement_0 rfl (lv_at hl 1 rfl) ?_
  refine x_doneI X h (x_runS X h (m_X7_isDevice I x _) F_X7_isDevice q857 q858 rfl (by decide) (by decide) ⟨Nat.le_refl _, Nat.le_refl _⟩ hl.1 (Nat.le_of_ble_eq_true rfl) dX7_agreement_1 rfl) (fun H locs h => ?_)
  refine b_if_eq (tgt := 18) hx hb dX7_agreement_4 (by decide) (fun c_4 => ?_) (fun c_4 => ?_)
  · skip
    refine lv_iconst (v := nI 0) hx hb dX7_agreement_18 (by decide) ?_
    refine lv_istore_n (lv' := [(3, .int (nI 0)), (0, .ref (ad (30, 0, 0, 0))), (1, .int x), (2, .int y)]) hx hb dX7_agreement_19 rfl hl (by decide) rfl (fun ls hl => ?_)
    refine lv_aload_n hx hb dX7_agreement_20 rfl (lv_at hl 1 rfl) ?_
    refine lv_iload_n hx hb dX7_agreement_21 rfl (lv_at hl 0 rfl) ?_
    refine lv_if_eq (tgt := 29) hx hb dX7_agreement_22 (by decide) (fun _ => ?_) (fun c => absurd c (by decide))
    refine lv_iconst (v := nI 1) hx hb dX7_agreement_29 (by decide) ?_
    refine x_doneI X h (x_runV X h (k := (30, 0, 0, 0)) (m_X7_fails1 I hL _) F_X7_fails q863 q865 q5 (hL (30, 0, 0, 0) ⟨by decide, rfl, rfl, rfl⟩) rfl rfl rfl (by decide) (by decide) ⟨Nat.le_refl _, Nat.le_refl _⟩ hl.1 (Nat.le_of_ble_eq_true rfl) dX7_agreement_30 rfl) (fun H locs h => ?_)
    refine b_if_eq (tgt := 38) hx hb dX7_agreement_33 (by decide) (fun c => (Bool.noConfusion c)) (fun _ => ?_)
    refine lv_fconst0 hx hb dX7_agreement_36 ?_
    exact x_fret X h hr rfl (fun _ _ => rfl) dX7_agreement_37
  · skip
    refine lv_iload_n hx hb dX7_agreement_7 rfl (lv_at hl 2 rfl) ?_
    refine x_doneI X h (x_runS X h (m_X7_isDevice I y _) F_X7_isDevice q857 q858 rfl (by decide) (by decide) ⟨Nat.le_refl _, Nat.le_refl _⟩ hl.1 (Nat.le_of_ble_eq_true rfl) dX7_agreement_8 rfl) (fun H locs h => ?_)
    refine b_if_eq (tgt := 18) hx hb dX7_agreement_11 (by decide) (fun c_11 => ?_) (fun c_11 => ?_)
    · skip
      refine lv_iconst (v := nI 0) hx hb dX7_agreement_18 (by decide) ?_
      refine lv_istore_n (lv' := [(3, .int (nI 0)), (0, .ref (ad (30, 0, 0, 0))), (1, .int x), (2, .int y)]) hx hb dX7_agreement_19 rfl hl (by decide) rfl (fun ls hl => ?_)
      refine lv_aload_n hx hb dX7_agreement_20 rfl (lv_at hl 1 rfl) ?_
      refine lv_iload_n hx hb dX7_agreement_21 rfl (lv_at hl 0 rfl) ?_
      refine lv_if_eq (tgt := 29) hx hb dX7_agreement_22 (by decide) (fun _ => ?_) (fun c => absurd c (by decide))
      refine lv_iconst (v := nI 1) hx hb dX7_agreement_29 (by decide) ?_
      refine x_doneI X h (x_runV X h (k := (30, 0, 0, 0)) (m_X7_fails1 I hL _) F_X7_fails q863 q865 q5 (hL (30, 0, 0, 0) ⟨by decide, rfl, rfl, rfl⟩) rfl rfl rfl (by decide) (by decide) ⟨Nat.le_refl _, Nat.le_refl _⟩ hl.1 (Nat.le_of_ble_eq_true rfl) dX7_agreement_30 rfl) (fun H locs h => ?_)
      refine b_if_eq (tgt := 38) hx hb dX7_agreement_33 (by decide) (fun c => (Bool.noConfusion c)) (fun _ => ?_)
      refine lv_fconst0 hx hb dX7_agreement_36 ?_
      exact x_fret X h hr rfl (fun _ _ => rfl) dX7_agreement_37
    · skip
      exact absurd h0 (by rw [c_4, c_11]; decide)

set_option maxHeartbeats 4000000 in
set_option maxRecDepth 100000 in
theorem m_X7_agreement_0 {l : Launch} {D : va_G} {tc : TC} {dz : Nat} {ad : KN → Nat} {Ks : List KN} {gm : GM} (I : Mem) (hL : LV gm Ks) (n : Nat) (hn : I (30, 0, 0, 0) 1 = nI n) (hn10 : n ≤ 10) (m : Nat) (hmm : I (30, 0, 0, 0) 2 = nI m) (hm5 : m ≤ 1000) (d o : Nat) (hd : d < 6) (ho : o < 6) : MF l yX7_agreement cX7_agreement 8 (Option.some ClassFile.FieldType.float) 4 D tc dz ad Ks (lay tc ad gm dz I) [.ref (ad (30, 0, 0, 0)), .int (nI d), .int (nI o)] (agF (masA (thM I 0) d o m n) (magA (thM I 0) d o m n)) (lay tc ad gm dz (thM I 0)) := by
  intro sz
  refine x_ofW (by decide +kernel) (Nat.le_of_ble_eq_true rfl) (fun pp ee s mm bel meth cd ls X hr hin hz h hl => ?_)
  subst hz
  obtain ⟨hx, hb, hmaxL, hown, hts⟩ := id X.1
  have hl : lv_has ls 8 [(0, .ref (ad (30, 0, 0, 0))), (1, .int (nI d)), (2, .int (nI o))] := hl
  refine lv_iload_n hx hb dX7_agreement_0 rfl (lv_at hl 1 rfl) ?_
  refine x_doneI X h (x_runS X h (m_X7_isDevice_in I d (by omega) _) F_X7_isDevice q857 q858 rfl (by decide) (by decide) ⟨Nat.le_refl _, Nat.le_refl _⟩ hl.1 (Nat.le_of_ble_eq_true rfl) dX7_agreement_1 rfl) (fun H locs h => ?_)
  refine b_if_eq (tgt := 18) hx hb dX7_agreement_4 (by decide) (fun c => (Bool.noConfusion c)) (fun _ => ?_)
  refine lv_iload_n hx hb dX7_agreement_7 rfl (lv_at hl 2 rfl) ?_
  refine x_doneI X h (x_runS X h (m_X7_isDevice_in I o (by omega) _) F_X7_isDevice q857 q858 rfl (by decide) (by decide) ⟨Nat.le_refl _, Nat.le_refl _⟩ hl.1 (Nat.le_of_ble_eq_true rfl) dX7_agreement_8 rfl) (fun H locs h => ?_)
  refine b_if_eq (tgt := 18) hx hb dX7_agreement_11 (by decide) (fun c => (Bool.noConfusion c)) (fun _ => ?_)
  refine lv_iconst (v := nI 1) hx hb dX7_agreement_14 (by decide) ?_
  refine lv_goto (tgt := 19) hx hb dX7_agreement_15 (by decide) ?_
  refine lv_istore_n (lv' := [(3, .int (nI 1)), (0, .ref (ad (30, 0, 0, 0))), (1, .int (nI d)), (2, .int (nI o))]) hx hb dX7_agreement_19 rfl hl (by decide) rfl (fun ls hl => ?_)
  refine lv_aload_n hx hb dX7_agreement_20 rfl (lv_at hl 1 rfl) ?_
  refine lv_iload_n hx hb dX7_agreement_21 rfl (lv_at hl 0 rfl) ?_
  refine lv_if_eq (tgt := 29) hx hb dX7_agreement_22 (by decide) (fun c => absurd c (by decide)) (fun _ => ?_)
  refine lv_iconst (v := nI 0) hx hb dX7_agreement_25 (by decide) ?_
  refine lv_goto (tgt := 30) hx hb dX7_agreement_26 (by decide) ?_
  refine x_doneI X h (x_runV X h (k := (30, 0, 0, 0)) (m_X7_fails0 I hL _) F_X7_fails q863 q865 q5 (hL (30, 0, 0, 0) ⟨by decide, rfl, rfl, rfl⟩) rfl rfl rfl (by decide) (by decide) ⟨Nat.le_refl _, Nat.le_refl _⟩ hl.1 (Nat.le_of_ble_eq_true rfl) dX7_agreement_30 rfl) (fun H locs h => ?_)
  refine b_if_eq (tgt := 38) hx hb dX7_agreement_33 (by decide) (fun _ => ?_) (fun c => (Bool.noConfusion c))
  refine lv_iconst (v := nI 0) hx hb dX7_agreement_38 (by decide) ?_
  refine lv_istore (lv' := [(4, .int (nI 0)), (3, .int (nI 1)), (0, .ref (ad (30, 0, 0, 0))), (1, .int (nI d)), (2, .int (nI o))]) hx hb dX7_agreement_39 hl (by decide) rfl (fun ls hl => ?_)
  refine lv_iconst (v := nI 0) hx hb dX7_agreement_41 (by decide) ?_
  refine lv_istore (lv' := [(5, .int (nI 0)), (4, .int (nI 0)), (3, .int (nI 1)), (0, .ref (ad (30, 0, 0, 0))), (1, .int (nI d)), (2, .int (nI o))]) hx hb dX7_agreement_42 hl (by decide) rfl (fun ls hl => ?_)
  refine lv_iconst (v := nI 0) hx hb dX7_agreement_44 (by decide) ?_
  refine lv_istore (lv' := [(6, .int (nI 0)), (5, .int (nI 0)), (4, .int (nI 0)), (3, .int (nI 1)), (0, .ref (ad (30, 0, 0, 0))), (1, .int (nI d)), (2, .int (nI o))]) hx hb dX7_agreement_45 hl (by decide) rfl (fun ls hl => ?_)
  refine y_loop (D := D) (A := wA ad Ks s.heap.size) (ad := ad) (Ks := Ks) (nL := 8) (fun i : Nat => lay tc ad gm dz (thM I 0)) (fun i => [(6, .int (nI i)), (5, .int (nI (masA (thM I 0) d o m i))), (4, .int (nI (magA (thM I 0) d o m i))), (2, .int (nI o)), (1, .int (nI d)), (0, .ref (ad (30, 0, 0, 0)))]) (fun _ => []) (fun i : Nat => i ≤ n) (fun i => n - i) (fun i hi47 ih47 H locs ls h hl => ?_) 0 (Nat.zero_le _) (h.eq (congrArg (lay tc ad gm dz) rfl)) (lv_sub hl [0, 1, 2, 6, 5, 4] rfl) rfl
  have h : Sx D (wA ad Ks s.heap.size) ad Ks (lay tc ad gm dz (thM I 0)) s H locs := h
  have hl : lv_has ls 8 [(6, .int (nI i)), (5, .int (nI (masA (thM I 0) d o m i))), (4, .int (nI (magA (thM I 0) d o m i))), (2, .int (nI o)), (1, .int (nI d)), (0, .ref (ad (30, 0, 0, 0)))] := hl
  refine lv_iload hx hb dX7_agreement_47 (lv_at hl 0 rfl) ?_
  refine lv_aload_n hx hb dX7_agreement_49 rfl (lv_at hl 5 rfl) ?_
  refine gf_Model_entries X h (hL (30, 0, 0, 0) ⟨by decide, rfl, rfl, rfl⟩) q798 (v := nI n) ((th_30 (by decide)).trans hn) dX7_agreement_50 ?_
  refine n_icmp_ge (tgt := 147) hx hb (by omega) (by omega) dX7_agreement_53 (by decide) (fun c_53 => ?_) (fun c_53 => ?_)
  · skip
    have him : n = i := by omega
    subst him
    refine lv_iload hx hb dX7_agreement_147 (lv_at hl 2 rfl) ?_
    have hca := magA_le (I := (thM I 0)) (d := d) (o := o) (m := m) n
    have hcb := masA_le (I := (thM I 0)) (d := d) (o := o) (m := m) n
    refine n_if_ne (tgt := 156) hx hb (by omega) dX7_agreement_149 (by decide) (fun c_149 => ?_) (fun c_149 => ?_)
    · skip
      refine lv_iload hx hb dX7_agreement_156 (lv_at hl 1 rfl) ?_
      refine lv_i2f hx hb dX7_agreement_158 ?_
      refine lv_iload hx hb dX7_agreement_159 (lv_at hl 2 rfl) ?_
      refine lv_i2f hx hb dX7_agreement_161 ?_
      refine lv_fdiv hx hb dX7_agreement_162 (fdiv_n (by omega) (by omega) (by omega)) ?_
      refine x_fret X h hr ?_ (fun _ _ => rfl) dX7_agreement_163
      · rw [agF, if_neg (by omega)]
    · skip
      refine lv_fconst1 hx hb dX7_agreement_152 ?_
      refine lv_goto (tgt := 163) hx hb dX7_agreement_153 (by decide) ?_
      refine x_fret X h hr ?_ (fun _ _ => rfl) dX7_agreement_163
      · rw [agF, if_pos (by omega)]
  · skip
    refine lv_iconst (v := nI 0) hx hb dX7_agreement_56 (by decide) ?_
    refine lv_istore (lv' := [(7, .int (nI 0)), (6, .int (nI i)), (5, .int (nI (masA (thM I 0) d o m i))), (4, .int (nI (magA (thM I 0) d o m i))), (2, .int (nI o)), (1, .int (nI d)), (0, .ref (ad (30, 0, 0, 0)))]) hx hb dX7_agreement_57 hl (by decide) rfl (fun ls hl => ?_)
    refine y_loop (D := D) (A := wA ad Ks s.heap.size) (ad := ad) (Ks := Ks) (nL := 8) (fun j : Nat => lay tc ad gm dz (thM I 0)) (fun j => [(7, .int (nI j)), (6, .int (nI i)), (5, .int (nI (masA (thM I 0) d o m i + masE (thM I 0) d o i m j))), (4, .int (nI (magA (thM I 0) d o m i + magE (thM I 0) d o i m j))), (2, .int (nI o)), (1, .int (nI d)), (0, .ref (ad (30, 0, 0, 0)))]) (fun _ => []) (fun j : Nat => j ≤ 4) (fun j => 4 - j) (fun j hi59 ih59 H locs ls h hl => ?_) 0 (Nat.zero_le _) (h.eq (congrArg (lay tc ad gm dz) rfl)) (lv_sub hl [0, 1, 2, 3, 4, 5, 6] rfl) rfl
    have h : Sx D (wA ad Ks s.heap.size) ad Ks (lay tc ad gm dz (thM I 0)) s H locs := h
    have hl : lv_has ls 8 [(7, .int (nI j)), (6, .int (nI i)), (5, .int (nI (masA (thM I 0) d o m i + masE (thM I 0) d o i m j))), (4, .int (nI (magA (thM I 0) d o m i + magE (thM I 0) d o i m j))), (2, .int (nI o)), (1, .int (nI d)), (0, .ref (ad (30, 0, 0, 0)))] := hl
    refine lv_iload hx hb dX7_agreement_59 (lv_at hl 0 rfl) ?_
    refine lv_iconst (v := nI 4) hx hb dX7_agreement_61 (by decide) ?_
    refine n_icmp_ge (tgt := 141) hx hb (by omega) (by omega) dX7_agreement_62 (by decide) (fun c_62 => ?_) (fun c_62 => ?_)
    · skip
      obtain rfl : j = 4 := by omega
      have hcn : nI (magA (thM I 0) d o m (i + 1)) = nI (magA (thM I 0) d o m i + magE (thM I 0) d o i m 4) := by rfl
      have hl : lv_has ls 8 [(7, .int (nI 4)), (6, .int (nI i)), (5, .int (nI (masA (thM I 0) d o m i + masE (thM I 0) d o i m 4))), (4, .int (nI (magA (thM I 0) d o m (i + 1)))), (2, .int (nI o)), (1, .int (nI d)), (0, .ref (ad (30, 0, 0, 0)))] := by rw [hcn]; exact hl
      have hcn : nI (masA (thM I 0) d o m (i + 1)) = nI (masA (thM I 0) d o m i + masE (thM I 0) d o i m 4) := by rfl
      have hl : lv_has ls 8 [(7, .int (nI 4)), (6, .int (nI i)), (5, .int (nI (masA (thM I 0) d o m (i + 1)))), (4, .int (nI (magA (thM I 0) d o m (i + 1)))), (2, .int (nI o)), (1, .int (nI d)), (0, .ref (ad (30, 0, 0, 0)))] := by rw [hcn]; exact hl
      refine n_iinc (j := i) (n := 1) (lv' := [(6, .int (nI (i + 1))), (7, .int (nI 4)), (5, .int (nI (masA (thM I 0) d o m (i + 1)))), (4, .int (nI (magA (thM I 0) d o m (i + 1)))), (2, .int (nI o)), (1, .int (nI d)), (0, .ref (ad (30, 0, 0, 0)))]) hx hb dX7_agreement_141 hl (k := 1) rfl (by decide) (by decide) rfl (fun ls hl => ?_)
      refine lv_goto (tgt := 47) hx hb dX7_agreement_144 (by decide) ?_
      exact ih47 (i + 1) (by omega) (by omega) H locs ls (h.eq (congrArg (lay tc ad gm dz) rfl)) (lv_sub hl [0, 2, 3, 4, 5, 6] rfl)
    · skip
      refine lv_aload_n hx hb dX7_agreement_65 rfl (lv_at hl 6 rfl) ?_
      refine lv_iload_n hx hb dX7_agreement_66 rfl (lv_at hl 5 rfl) ?_
      refine lv_iload hx hb dX7_agreement_67 (lv_at hl 1 rfl) ?_
      refine lv_iload hx hb dX7_agreement_69 (lv_at hl 0 rfl) ?_
      refine x_doneI X h (x_runV X h (k := (30, 0, 0, 0)) (m_X7_may (thM I 0) hL d i (by omega) (by omega) j _) F_X7_may q885 q887 q8 (hL (30, 0, 0, 0) ⟨by decide, rfl, rfl, rfl⟩) rfl rfl rfl (by decide) (by decide) ⟨Nat.le_refl _, Nat.le_refl _⟩ hl.1 (Nat.le_of_ble_eq_true rfl) dX7_agreement_71 rfl) (fun H locs h => ?_)
      refine b_if_eq (tgt := 135) hx hb dX7_agreement_74 (by decide) (fun c_74 => ?_) (fun c_74 => ?_)
      · skip
        have hcn : nI (magA (thM I 0) d o m i + magE (thM I 0) d o i m (j + 1)) = nI (magA (thM I 0) d o m i + magE (thM I 0) d o i m j) := by simp only [magE, magP, c_53, c_62, c_74, decide_true, decide_false, Bool.not_true, Bool.not_false, Bool.and_true, Bool.and_false, Bool.true_and, Bool.false_and, Bool.or_true, Bool.or_false, Bool.true_or, Bool.false_or, Bool.and_self, Bool.or_self, ↓reduceIte, Bool.false_eq_true, not_false_eq_true, not_true_eq_false] <;> rfl
        have hl : lv_has ls 8 [(7, .int (nI j)), (6, .int (nI i)), (5, .int (nI (masA (thM I 0) d o m i + masE (thM I 0) d o i m j))), (4, .int (nI (magA (thM I 0) d o m i + magE (thM I 0) d o i m (j + 1)))), (2, .int (nI o)), (1, .int (nI d)), (0, .ref (ad (30, 0, 0, 0)))] := by rw [hcn]; exact hl
        have hcn : nI (masA (thM I 0) d o m i + masE (thM I 0) d o i m (j + 1)) = nI (masA (thM I 0) d o m i + masE (thM I 0) d o i m j) := by simp only [masE, magP, c_53, c_62, c_74, decide_true, decide_false, Bool.not_true, Bool.not_false, Bool.and_true, Bool.and_false, Bool.true_and, Bool.false_and, Bool.or_true, Bool.or_false, Bool.true_or, Bool.false_or, Bool.and_self, Bool.or_self, ↓reduceIte, Bool.false_eq_true, not_false_eq_true, not_true_eq_false] <;> rfl
        have hl : lv_has ls 8 [(7, .int (nI j)), (6, .int (nI i)), (5, .int (nI (masA (thM I 0) d o m i + masE (thM I 0) d o i m (j + 1)))), (4, .int (nI (magA (thM I 0) d o m i + magE (thM I 0) d o i m (j + 1)))), (2, .int (nI o)), (1, .int (nI d)), (0, .ref (ad (30, 0, 0, 0)))] := by rw [hcn]; exact hl
        refine n_iinc (j := j) (n := 1) (lv' := [(7, .int (nI (j + 1))), (6, .int (nI i)), (5, .int (nI (masA (thM I 0) d o m i + masE (thM I 0) d o i m (j + 1)))), (4, .int (nI (magA (thM I 0) d o m i + magE (thM I 0) d o i m (j + 1)))), (2, .int (nI o)), (1, .int (nI d)), (0, .ref (ad (30, 0, 0, 0)))]) hx hb dX7_agreement_135 hl (k := 0) rfl (by decide) (by decide) rfl (fun ls hl => ?_)
        refine lv_goto (tgt := 59) hx hb dX7_agreement_138 (by decide) ?_
        exact ih59 (j + 1) (by omega) (by omega) H locs ls (h.eq (congrArg (lay tc ad gm dz) rfl)) (lv_sub hl [0, 1, 2, 3, 4, 5, 6] rfl)
      · skip
        refine lv_aload_n hx hb dX7_agreement_77 rfl (lv_at hl 6 rfl) ?_
        refine lv_iload_n hx hb dX7_agreement_78 rfl (lv_at hl 4 rfl) ?_
        refine lv_iload hx hb dX7_agreement_79 (lv_at hl 1 rfl) ?_
        refine lv_iload hx hb dX7_agreement_81 (lv_at hl 0 rfl) ?_
        refine x_doneI X h (x_runV X h (k := (30, 0, 0, 0)) (m_X7_may (thM I 0) hL o i (by omega) (by omega) j _) F_X7_may q885 q887 q8 (hL (30, 0, 0, 0) ⟨by decide, rfl, rfl, rfl⟩) rfl rfl rfl (by decide) (by decide) ⟨Nat.le_refl _, Nat.le_refl _⟩ hl.1 (Nat.le_of_ble_eq_true rfl) dX7_agreement_83 rfl) (fun H locs h => ?_)
        refine b_if_eq (tgt := 135) hx hb dX7_agreement_86 (by decide) (fun c_86 => ?_) (fun c_86 => ?_)
        · skip
          have hcn : nI (magA (thM I 0) d o m i + magE (thM I 0) d o i m (j + 1)) = nI (magA (thM I 0) d o m i + magE (thM I 0) d o i m j) := by simp only [magE, magP, c_53, c_62, c_74, c_86, decide_true, decide_false, Bool.not_true, Bool.not_false, Bool.and_true, Bool.and_false, Bool.true_and, Bool.false_and, Bool.or_true, Bool.or_false, Bool.true_or, Bool.false_or, Bool.and_self, Bool.or_self, ↓reduceIte, Bool.false_eq_true, not_false_eq_true, not_true_eq_false] <;> rfl
          have hl : lv_has ls 8 [(7, .int (nI j)), (6, .int (nI i)), (5, .int (nI (masA (thM I 0) d o m i + masE (thM I 0) d o i m j))), (4, .int (nI (magA (thM I 0) d o m i + magE (thM I 0) d o i m (j + 1)))), (2, .int (nI o)), (1, .int (nI d)), (0, .ref (ad (30, 0, 0, 0)))] := by rw [hcn]; exact hl
          have hcn : nI (masA (thM I 0) d o m i + masE (thM I 0) d o i m (j + 1)) = nI (masA (thM I 0) d o m i + masE (thM I 0) d o i m j) := by simp only [masE, magP, c_53, c_62, c_74, c_86, decide_true, decide_false, Bool.not_true, Bool.not_false, Bool.and_true, Bool.and_false, Bool.true_and, Bool.false_and, Bool.or_true, Bool.or_false, Bool.true_or, Bool.false_or, Bool.and_self, Bool.or_self, ↓reduceIte, Bool.false_eq_true, not_false_eq_true, not_true_eq_false] <;> rfl
          have hl : lv_has ls 8 [(7, .int (nI j)), (6, .int (nI i)), (5, .int (nI (masA (thM I 0) d o m i + masE (thM I 0) d o i m (j + 1)))), (4, .int (nI (magA (thM I 0) d o m i + magE (thM I 0) d o i m (j + 1)))), (2, .int (nI o)), (1, .int (nI d)), (0, .ref (ad (30, 0, 0, 0)))] := by rw [hcn]; exact hl
          refine n_iinc (j := j) (n := 1) (lv' := [(7, .int (nI (j + 1))), (6, .int (nI i)), (5, .int (nI (masA (thM I 0) d o m i + masE (thM I 0) d o i m (j + 1)))), (4, .int (nI (magA (thM I 0) d o m i + magE (thM I 0) d o i m (j + 1)))), (2, .int (nI o)), (1, .int (nI d)), (0, .ref (ad (30, 0, 0, 0)))]) hx hb dX7_agreement_135 hl (k := 0) rfl (by decide) (by decide) rfl (fun ls hl => ?_)
          refine lv_goto (tgt := 59) hx hb dX7_agreement_138 (by decide) ?_
          exact ih59 (j + 1) (by omega) (by omega) H locs ls (h.eq (congrArg (lay tc ad gm dz) rfl)) (lv_sub hl [0, 1, 2, 3, 4, 5, 6] rfl)
        · skip
          refine lv_aload_n hx hb dX7_agreement_89 rfl (lv_at hl 6 rfl) ?_
          refine lv_iload_n hx hb dX7_agreement_90 rfl (lv_at hl 5 rfl) ?_
          refine lv_iload hx hb dX7_agreement_91 (lv_at hl 1 rfl) ?_
          refine x_doneI X h (x_runV X h (k := (30, 0, 0, 0)) (m_X7_isThere (thM I 0) hL d i (by omega) (by omega) m (by first | exact hmm | (rw [th_30 (by decide)]; exact hmm) | (simp only [sset_ne _ _ (nek (by decide) : ((30, 0, 0, 0) : KN) ≠ (31, 0, 0, 0)), sset_ne _ _ (nek (by decide) : ((30, 0, 0, 0) : KN) ≠ (32, 0, 0, 0)), sset_ne _ _ (nek (by decide) : ((30, 0, 0, 0) : KN) ≠ (33, 0, 0, 0)), sset_ne _ _ (nek (by decide) : ((30, 0, 0, 0) : KN) ≠ (34, 0, 0, 0)), sset_ne _ _ (nek (by decide) : ((30, 0, 0, 0) : KN) ≠ (35, 0, 0, 0)), sset_ne _ _ (nek (by decide) : ((30, 0, 0, 0) : KN) ≠ (36, 0, 0, 0)), sset_ne _ _ (nek (by decide) : ((30, 0, 0, 0) : KN) ≠ (37, 0, 0, 0)), sset_ne _ _ (nek (by decide) : ((30, 0, 0, 0) : KN) ≠ (38, 0, 0, 0)), sset_ne _ _ (nek (by decide) : ((30, 0, 0, 0) : KN) ≠ (39, 0, 0, 0)), sset_ne _ _ (nek (by decide) : ((30, 0, 0, 0) : KN) ≠ (40, 0, 0, 0)), sset_ne _ _ (nek (by decide) : ((30, 0, 0, 0) : KN) ≠ (41, 0, 0, 0)), sset_ne _ _ (nek (by decide) : ((30, 0, 0, 0) : KN) ≠ (42, 0, 0, 0)), sset_eq, upd, ↓reduceIte]; first | exact hmm | (rw [th_30 (by decide)]; exact hmm))) hm5 _) F_X7_isThere q900 q902 q10 (hL (30, 0, 0, 0) ⟨by decide, rfl, rfl, rfl⟩) rfl rfl rfl (by decide) (by decide) ⟨Nat.le_refl _, Nat.le_refl _⟩ hl.1 (Nat.le_of_ble_eq_true rfl) dX7_agreement_93 rfl) (fun H locs h => ?_)
          refine b_if_ne (tgt := 109) hx hb dX7_agreement_96 (by decide) (fun c_96 => ?_) (fun c_96 => ?_)
          · skip
            refine n_iinc (j := (magA (thM I 0) d o m i + magE (thM I 0) d o i m j)) (n := 1) (lv' := [(4, .int (nI ((magA (thM I 0) d o m i + magE (thM I 0) d o i m j) + 1))), (7, .int (nI j)), (6, .int (nI i)), (5, .int (nI (masA (thM I 0) d o m i + masE (thM I 0) d o i m j))), (2, .int (nI o)), (1, .int (nI d)), (0, .ref (ad (30, 0, 0, 0)))]) hx hb dX7_agreement_109 hl (k := 3) rfl (by decide) (by decide) rfl (fun ls hl => ?_)
            refine lv_iload hx hb dX7_agreement_112 (lv_at hl 3 rfl) ?_
            refine lv_aload_n hx hb dX7_agreement_114 rfl (lv_at hl 6 rfl) ?_
            refine lv_iload_n hx hb dX7_agreement_115 rfl (lv_at hl 5 rfl) ?_
            refine lv_iload_n hx hb dX7_agreement_116 rfl (lv_at hl 4 rfl) ?_
            refine lv_iload hx hb dX7_agreement_117 (lv_at hl 2 rfl) ?_
            refine lv_iload hx hb dX7_agreement_119 (lv_at hl 1 rfl) ?_
            refine x_doneI X h (x_runV X h (k := (30, 0, 0, 0)) (m_X7_areSame (thM I 0) hL d o i (by omega) (by omega) (by omega) j (by omega) _) F_X7_areSame q1007 q1009 q25 (hL (30, 0, 0, 0) ⟨by decide, rfl, rfl, rfl⟩) rfl rfl rfl (by decide) (by decide) ⟨Nat.le_refl _, Nat.le_refl _⟩ hl.1 (Nat.le_of_ble_eq_true rfl) dX7_agreement_121 rfl) (fun H locs h => ?_)
            refine b_if_eq (tgt := 131) hx hb dX7_agreement_124 (by decide) (fun c_124 => ?_) (fun c_124 => ?_)
            · skip
              refine lv_iconst (v := nI 0) hx hb dX7_agreement_131 (by decide) ?_
              refine n_iadd hx hb dX7_agreement_132 ?_
              refine lv_istore (lv' := [(5, .int (nI ((masA (thM I 0) d o m i + masE (thM I 0) d o i m j) + 0))), (4, .int (nI ((magA (thM I 0) d o m i + magE (thM I 0) d o i m j) + 1))), (7, .int (nI j)), (6, .int (nI i)), (2, .int (nI o)), (1, .int (nI d)), (0, .ref (ad (30, 0, 0, 0)))]) hx hb dX7_agreement_133 hl (by decide) rfl (fun ls hl => ?_)
              have hcn : nI (magA (thM I 0) d o m i + magE (thM I 0) d o i m (j + 1)) = nI ((magA (thM I 0) d o m i + magE (thM I 0) d o i m j) + 1) := by simp only [magE, magP, c_53, c_62, c_74, c_86, c_96, c_124, decide_true, decide_false, Bool.not_true, Bool.not_false, Bool.and_true, Bool.and_false, Bool.true_and, Bool.false_and, Bool.or_true, Bool.or_false, Bool.true_or, Bool.false_or, Bool.and_self, Bool.or_self, ↓reduceIte, Bool.false_eq_true, not_false_eq_true, not_true_eq_false] <;> rfl
              have hl : lv_has ls 8 [(5, .int (nI ((masA (thM I 0) d o m i + masE (thM I 0) d o i m j) + 0))), (4, .int (nI (magA (thM I 0) d o m i + magE (thM I 0) d o i m (j + 1)))), (7, .int (nI j)), (6, .int (nI i)), (2, .int (nI o)), (1, .int (nI d)), (0, .ref (ad (30, 0, 0, 0)))] := by rw [hcn]; exact hl
              have hcn : nI (masA (thM I 0) d o m i + masE (thM I 0) d o i m (j + 1)) = nI ((masA (thM I 0) d o m i + masE (thM I 0) d o i m j) + 0) := by simp only [masE, magP, c_53, c_62, c_74, c_86, c_96, c_124, decide_true, decide_false, Bool.not_true, Bool.not_false, Bool.and_true, Bool.and_false, Bool.true_and, Bool.false_and, Bool.or_true, Bool.or_false, Bool.true_or, Bool.false_or, Bool.and_self, Bool.or_self, ↓reduceIte, Bool.false_eq_true, not_false_eq_true, not_true_eq_false] <;> rfl
              have hl : lv_has ls 8 [(5, .int (nI (masA (thM I 0) d o m i + masE (thM I 0) d o i m (j + 1)))), (4, .int (nI (magA (thM I 0) d o m i + magE (thM I 0) d o i m (j + 1)))), (7, .int (nI j)), (6, .int (nI i)), (2, .int (nI o)), (1, .int (nI d)), (0, .ref (ad (30, 0, 0, 0)))] := by rw [hcn]; exact hl
              refine n_iinc (j := j) (n := 1) (lv' := [(7, .int (nI (j + 1))), (5, .int (nI (masA (thM I 0) d o m i + masE (thM I 0) d o i m (j + 1)))), (4, .int (nI (magA (thM I 0) d o m i + magE (thM I 0) d o i m (j + 1)))), (6, .int (nI i)), (2, .int (nI o)), (1, .int (nI d)), (0, .ref (ad (30, 0, 0, 0)))]) hx hb dX7_agreement_135 hl (k := 2) rfl (by decide) (by decide) rfl (fun ls hl => ?_)
              refine lv_goto (tgt := 59) hx hb dX7_agreement_138 (by decide) ?_
              exact ih59 (j + 1) (by omega) (by omega) H locs ls (h.eq (congrArg (lay tc ad gm dz) rfl)) (lv_sub hl [0, 3, 1, 2, 4, 5, 6] rfl)
            · skip
              refine lv_iconst (v := nI 1) hx hb dX7_agreement_127 (by decide) ?_
              refine lv_goto (tgt := 132) hx hb dX7_agreement_128 (by decide) ?_
              refine n_iadd hx hb dX7_agreement_132 ?_
              refine lv_istore (lv' := [(5, .int (nI ((masA (thM I 0) d o m i + masE (thM I 0) d o i m j) + 1))), (4, .int (nI ((magA (thM I 0) d o m i + magE (thM I 0) d o i m j) + 1))), (7, .int (nI j)), (6, .int (nI i)), (2, .int (nI o)), (1, .int (nI d)), (0, .ref (ad (30, 0, 0, 0)))]) hx hb dX7_agreement_133 hl (by decide) rfl (fun ls hl => ?_)
              have hcn : nI (magA (thM I 0) d o m i + magE (thM I 0) d o i m (j + 1)) = nI ((magA (thM I 0) d o m i + magE (thM I 0) d o i m j) + 1) := by simp only [magE, magP, c_53, c_62, c_74, c_86, c_96, c_124, decide_true, decide_false, Bool.not_true, Bool.not_false, Bool.and_true, Bool.and_false, Bool.true_and, Bool.false_and, Bool.or_true, Bool.or_false, Bool.true_or, Bool.false_or, Bool.and_self, Bool.or_self, ↓reduceIte, Bool.false_eq_true, not_false_eq_true, not_true_eq_false] <;> rfl
              have hl : lv_has ls 8 [(5, .int (nI ((masA (thM I 0) d o m i + masE (thM I 0) d o i m j) + 1))), (4, .int (nI (magA (thM I 0) d o m i + magE (thM I 0) d o i m (j + 1)))), (7, .int (nI j)), (6, .int (nI i)), (2, .int (nI o)), (1, .int (nI d)), (0, .ref (ad (30, 0, 0, 0)))] := by rw [hcn]; exact hl
              have hcn : nI (masA (thM I 0) d o m i + masE (thM I 0) d o i m (j + 1)) = nI ((masA (thM I 0) d o m i + masE (thM I 0) d o i m j) + 1) := by simp only [masE, magP, c_53, c_62, c_74, c_86, c_96, c_124, decide_true, decide_false, Bool.not_true, Bool.not_false, Bool.and_true, Bool.and_false, Bool.true_and, Bool.false_and, Bool.or_true, Bool.or_false, Bool.true_or, Bool.false_or, Bool.and_self, Bool.or_self, ↓reduceIte, Bool.false_eq_true, not_false_eq_true, not_true_eq_false] <;> rfl
              have hl : lv_has ls 8 [(5, .int (nI (masA (thM I 0) d o m i + masE (thM I 0) d o i m (j + 1)))), (4, .int (nI (magA (thM I 0) d o m i + magE (thM I 0) d o i m (j + 1)))), (7, .int (nI j)), (6, .int (nI i)), (2, .int (nI o)), (1, .int (nI d)), (0, .ref (ad (30, 0, 0, 0)))] := by rw [hcn]; exact hl
              refine n_iinc (j := j) (n := 1) (lv' := [(7, .int (nI (j + 1))), (5, .int (nI (masA (thM I 0) d o m i + masE (thM I 0) d o i m (j + 1)))), (4, .int (nI (magA (thM I 0) d o m i + magE (thM I 0) d o i m (j + 1)))), (6, .int (nI i)), (2, .int (nI o)), (1, .int (nI d)), (0, .ref (ad (30, 0, 0, 0)))]) hx hb dX7_agreement_135 hl (k := 2) rfl (by decide) (by decide) rfl (fun ls hl => ?_)
              refine lv_goto (tgt := 59) hx hb dX7_agreement_138 (by decide) ?_
              exact ih59 (j + 1) (by omega) (by omega) H locs ls (h.eq (congrArg (lay tc ad gm dz) rfl)) (lv_sub hl [0, 3, 1, 2, 4, 5, 6] rfl)
          · skip
            refine lv_aload_n hx hb dX7_agreement_99 rfl (lv_at hl 6 rfl) ?_
            refine lv_iload_n hx hb dX7_agreement_100 rfl (lv_at hl 4 rfl) ?_
            refine lv_iload hx hb dX7_agreement_101 (lv_at hl 1 rfl) ?_
            refine x_doneI X h (x_runV X h (k := (30, 0, 0, 0)) (m_X7_isThere (thM I 0) hL o i (by omega) (by omega) m (by first | exact hmm | (rw [th_30 (by decide)]; exact hmm) | (simp only [sset_ne _ _ (nek (by decide) : ((30, 0, 0, 0) : KN) ≠ (31, 0, 0, 0)), sset_ne _ _ (nek (by decide) : ((30, 0, 0, 0) : KN) ≠ (32, 0, 0, 0)), sset_ne _ _ (nek (by decide) : ((30, 0, 0, 0) : KN) ≠ (33, 0, 0, 0)), sset_ne _ _ (nek (by decide) : ((30, 0, 0, 0) : KN) ≠ (34, 0, 0, 0)), sset_ne _ _ (nek (by decide) : ((30, 0, 0, 0) : KN) ≠ (35, 0, 0, 0)), sset_ne _ _ (nek (by decide) : ((30, 0, 0, 0) : KN) ≠ (36, 0, 0, 0)), sset_ne _ _ (nek (by decide) : ((30, 0, 0, 0) : KN) ≠ (37, 0, 0, 0)), sset_ne _ _ (nek (by decide) : ((30, 0, 0, 0) : KN) ≠ (38, 0, 0, 0)), sset_ne _ _ (nek (by decide) : ((30, 0, 0, 0) : KN) ≠ (39, 0, 0, 0)), sset_ne _ _ (nek (by decide) : ((30, 0, 0, 0) : KN) ≠ (40, 0, 0, 0)), sset_ne _ _ (nek (by decide) : ((30, 0, 0, 0) : KN) ≠ (41, 0, 0, 0)), sset_ne _ _ (nek (by decide) : ((30, 0, 0, 0) : KN) ≠ (42, 0, 0, 0)), sset_eq, upd, ↓reduceIte]; first | exact hmm | (rw [th_30 (by decide)]; exact hmm))) hm5 _) F_X7_isThere q900 q902 q10 (hL (30, 0, 0, 0) ⟨by decide, rfl, rfl, rfl⟩) rfl rfl rfl (by decide) (by decide) ⟨Nat.le_refl _, Nat.le_refl _⟩ hl.1 (Nat.le_of_ble_eq_true rfl) dX7_agreement_103 rfl) (fun H locs h => ?_)
            refine b_if_eq (tgt := 135) hx hb dX7_agreement_106 (by decide) (fun c_106 => ?_) (fun c_106 => ?_)
            · skip
              have hcn : nI (magA (thM I 0) d o m i + magE (thM I 0) d o i m (j + 1)) = nI (magA (thM I 0) d o m i + magE (thM I 0) d o i m j) := by simp only [magE, magP, c_53, c_62, c_74, c_86, c_96, c_106, decide_true, decide_false, Bool.not_true, Bool.not_false, Bool.and_true, Bool.and_false, Bool.true_and, Bool.false_and, Bool.or_true, Bool.or_false, Bool.true_or, Bool.false_or, Bool.and_self, Bool.or_self, ↓reduceIte, Bool.false_eq_true, not_false_eq_true, not_true_eq_false] <;> rfl
              have hl : lv_has ls 8 [(7, .int (nI j)), (6, .int (nI i)), (5, .int (nI (masA (thM I 0) d o m i + masE (thM I 0) d o i m j))), (4, .int (nI (magA (thM I 0) d o m i + magE (thM I 0) d o i m (j + 1)))), (2, .int (nI o)), (1, .int (nI d)), (0, .ref (ad (30, 0, 0, 0)))] := by rw [hcn]; exact hl
              have hcn : nI (masA (thM I 0) d o m i + masE (thM I 0) d o i m (j + 1)) = nI (masA (thM I 0) d o m i + masE (thM I 0) d o i m j) := by simp only [masE, magP, c_53, c_62, c_74, c_86, c_96, c_106, decide_true, decide_false, Bool.not_true, Bool.not_false, Bool.and_true, Bool.and_false, Bool.true_and, Bool.false_and, Bool.or_true, Bool.or_false, Bool.true_or, Bool.false_or, Bool.and_self, Bool.or_self, ↓reduceIte, Bool.false_eq_true, not_false_eq_true, not_true_eq_false] <;> rfl
              have hl : lv_has ls 8 [(7, .int (nI j)), (6, .int (nI i)), (5, .int (nI (masA (thM I 0) d o m i + masE (thM I 0) d o i m (j + 1)))), (4, .int (nI (magA (thM I 0) d o m i + magE (thM I 0) d o i m (j + 1)))), (2, .int (nI o)), (1, .int (nI d)), (0, .ref (ad (30, 0, 0, 0)))] := by rw [hcn]; exact hl
              refine n_iinc (j := j) (n := 1) (lv' := [(7, .int (nI (j + 1))), (6, .int (nI i)), (5, .int (nI (masA (thM I 0) d o m i + masE (thM I 0) d o i m (j + 1)))), (4, .int (nI (magA (thM I 0) d o m i + magE (thM I 0) d o i m (j + 1)))), (2, .int (nI o)), (1, .int (nI d)), (0, .ref (ad (30, 0, 0, 0)))]) hx hb dX7_agreement_135 hl (k := 0) rfl (by decide) (by decide) rfl (fun ls hl => ?_)
              refine lv_goto (tgt := 59) hx hb dX7_agreement_138 (by decide) ?_
              exact ih59 (j + 1) (by omega) (by omega) H locs ls (h.eq (congrArg (lay tc ad gm dz) rfl)) (lv_sub hl [0, 1, 2, 3, 4, 5, 6] rfl)
            · skip
              refine n_iinc (j := (magA (thM I 0) d o m i + magE (thM I 0) d o i m j)) (n := 1) (lv' := [(4, .int (nI ((magA (thM I 0) d o m i + magE (thM I 0) d o i m j) + 1))), (7, .int (nI j)), (6, .int (nI i)), (5, .int (nI (masA (thM I 0) d o m i + masE (thM I 0) d o i m j))), (2, .int (nI o)), (1, .int (nI d)), (0, .ref (ad (30, 0, 0, 0)))]) hx hb dX7_agreement_109 hl (k := 3) rfl (by decide) (by decide) rfl (fun ls hl => ?_)
              refine lv_iload hx hb dX7_agreement_112 (lv_at hl 3 rfl) ?_
              refine lv_aload_n hx hb dX7_agreement_114 rfl (lv_at hl 6 rfl) ?_
              refine lv_iload_n hx hb dX7_agreement_115 rfl (lv_at hl 5 rfl) ?_
              refine lv_iload_n hx hb dX7_agreement_116 rfl (lv_at hl 4 rfl) ?_
              refine lv_iload hx hb dX7_agreement_117 (lv_at hl 2 rfl) ?_
              refine lv_iload hx hb dX7_agreement_119 (lv_at hl 1 rfl) ?_
              refine x_doneI X h (x_runV X h (k := (30, 0, 0, 0)) (m_X7_areSame (thM I 0) hL d o i (by omega) (by omega) (by omega) j (by omega) _) F_X7_areSame q1007 q1009 q25 (hL (30, 0, 0, 0) ⟨by decide, rfl, rfl, rfl⟩) rfl rfl rfl (by decide) (by decide) ⟨Nat.le_refl _, Nat.le_refl _⟩ hl.1 (Nat.le_of_ble_eq_true rfl) dX7_agreement_121 rfl) (fun H locs h => ?_)
              refine b_if_eq (tgt := 131) hx hb dX7_agreement_124 (by decide) (fun c_124 => ?_) (fun c_124 => ?_)
              · skip
                refine lv_iconst (v := nI 0) hx hb dX7_agreement_131 (by decide) ?_
                refine n_iadd hx hb dX7_agreement_132 ?_
                refine lv_istore (lv' := [(5, .int (nI ((masA (thM I 0) d o m i + masE (thM I 0) d o i m j) + 0))), (4, .int (nI ((magA (thM I 0) d o m i + magE (thM I 0) d o i m j) + 1))), (7, .int (nI j)), (6, .int (nI i)), (2, .int (nI o)), (1, .int (nI d)), (0, .ref (ad (30, 0, 0, 0)))]) hx hb dX7_agreement_133 hl (by decide) rfl (fun ls hl => ?_)
                have hcn : nI (magA (thM I 0) d o m i + magE (thM I 0) d o i m (j + 1)) = nI ((magA (thM I 0) d o m i + magE (thM I 0) d o i m j) + 1) := by simp only [magE, magP, c_53, c_62, c_74, c_86, c_96, c_106, c_124, decide_true, decide_false, Bool.not_true, Bool.not_false, Bool.and_true, Bool.and_false, Bool.true_and, Bool.false_and, Bool.or_true, Bool.or_false, Bool.true_or, Bool.false_or, Bool.and_self, Bool.or_self, ↓reduceIte, Bool.false_eq_true, not_false_eq_true, not_true_eq_false] <;> rfl
                have hl : lv_has ls 8 [(5, .int (nI ((masA (thM I 0) d o m i + masE (thM I 0) d o i m j) + 0))), (4, .int (nI (magA (thM I 0) d o m i + magE (thM I 0) d o i m (j + 1)))), (7, .int (nI j)), (6, .int (nI i)), (2, .int (nI o)), (1, .int (nI d)), (0, .ref (ad (30, 0, 0, 0)))] := by rw [hcn]; exact hl
                have hcn : nI (masA (thM I 0) d o m i + masE (thM I 0) d o i m (j + 1)) = nI ((masA (thM I 0) d o m i + masE (thM I 0) d o i m j) + 0) := by simp only [masE, magP, c_53, c_62, c_74, c_86, c_96, c_106, c_124, decide_true, decide_false, Bool.not_true, Bool.not_false, Bool.and_true, Bool.and_false, Bool.true_and, Bool.false_and, Bool.or_true, Bool.or_false, Bool.true_or, Bool.false_or, Bool.and_self, Bool.or_self, ↓reduceIte, Bool.false_eq_true, not_false_eq_true, not_true_eq_false] <;> rfl
                have hl : lv_has ls 8 [(5, .int (nI (masA (thM I 0) d o m i + masE (thM I 0) d o i m (j + 1)))), (4, .int (nI (magA (thM I 0) d o m i + magE (thM I 0) d o i m (j + 1)))), (7, .int (nI j)), (6, .int (nI i)), (2, .int (nI o)), (1, .int (nI d)), (0, .ref (ad (30, 0, 0, 0)))] := by rw [hcn]; exact hl
                refine n_iinc (j := j) (n := 1) (lv' := [(7, .int (nI (j + 1))), (5, .int (nI (masA (thM I 0) d o m i + masE (thM I 0) d o i m (j + 1)))), (4, .int (nI (magA (thM I 0) d o m i + magE (thM I 0) d o i m (j + 1)))), (6, .int (nI i)), (2, .int (nI o)), (1, .int (nI d)), (0, .ref (ad (30, 0, 0, 0)))]) hx hb dX7_agreement_135 hl (k := 2) rfl (by decide) (by decide) rfl (fun ls hl => ?_)
                refine lv_goto (tgt := 59) hx hb dX7_agreement_138 (by decide) ?_
                exact ih59 (j + 1) (by omega) (by omega) H locs ls (h.eq (congrArg (lay tc ad gm dz) rfl)) (lv_sub hl [0, 3, 1, 2, 4, 5, 6] rfl)
              · skip
                refine lv_iconst (v := nI 1) hx hb dX7_agreement_127 (by decide) ?_
                refine lv_goto (tgt := 132) hx hb dX7_agreement_128 (by decide) ?_
                refine n_iadd hx hb dX7_agreement_132 ?_
                refine lv_istore (lv' := [(5, .int (nI ((masA (thM I 0) d o m i + masE (thM I 0) d o i m j) + 1))), (4, .int (nI ((magA (thM I 0) d o m i + magE (thM I 0) d o i m j) + 1))), (7, .int (nI j)), (6, .int (nI i)), (2, .int (nI o)), (1, .int (nI d)), (0, .ref (ad (30, 0, 0, 0)))]) hx hb dX7_agreement_133 hl (by decide) rfl (fun ls hl => ?_)
                have hcn : nI (magA (thM I 0) d o m i + magE (thM I 0) d o i m (j + 1)) = nI ((magA (thM I 0) d o m i + magE (thM I 0) d o i m j) + 1) := by simp only [magE, magP, c_53, c_62, c_74, c_86, c_96, c_106, c_124, decide_true, decide_false, Bool.not_true, Bool.not_false, Bool.and_true, Bool.and_false, Bool.true_and, Bool.false_and, Bool.or_true, Bool.or_false, Bool.true_or, Bool.false_or, Bool.and_self, Bool.or_self, ↓reduceIte, Bool.false_eq_true, not_false_eq_true, not_true_eq_false] <;> rfl
                have hl : lv_has ls 8 [(5, .int (nI ((masA (thM I 0) d o m i + masE (thM I 0) d o i m j) + 1))), (4, .int (nI (magA (thM I 0) d o m i + magE (thM I 0) d o i m (j + 1)))), (7, .int (nI j)), (6, .int (nI i)), (2, .int (nI o)), (1, .int (nI d)), (0, .ref (ad (30, 0, 0, 0)))] := by rw [hcn]; exact hl
                have hcn : nI (masA (thM I 0) d o m i + masE (thM I 0) d o i m (j + 1)) = nI ((masA (thM I 0) d o m i + masE (thM I 0) d o i m j) + 1) := by simp only [masE, magP, c_53, c_62, c_74, c_86, c_96, c_106, c_124, decide_true, decide_false, Bool.not_true, Bool.not_false, Bool.and_true, Bool.and_false, Bool.true_and, Bool.false_and, Bool.or_true, Bool.or_false, Bool.true_or, Bool.false_or, Bool.and_self, Bool.or_self, ↓reduceIte, Bool.false_eq_true, not_false_eq_true, not_true_eq_false] <;> rfl
                have hl : lv_has ls 8 [(5, .int (nI (masA (thM I 0) d o m i + masE (thM I 0) d o i m (j + 1)))), (4, .int (nI (magA (thM I 0) d o m i + magE (thM I 0) d o i m (j + 1)))), (7, .int (nI j)), (6, .int (nI i)), (2, .int (nI o)), (1, .int (nI d)), (0, .ref (ad (30, 0, 0, 0)))] := by rw [hcn]; exact hl
                refine n_iinc (j := j) (n := 1) (lv' := [(7, .int (nI (j + 1))), (5, .int (nI (masA (thM I 0) d o m i + masE (thM I 0) d o i m (j + 1)))), (4, .int (nI (magA (thM I 0) d o m i + magE (thM I 0) d o i m (j + 1)))), (6, .int (nI i)), (2, .int (nI o)), (1, .int (nI d)), (0, .ref (ad (30, 0, 0, 0)))]) hx hb dX7_agreement_135 hl (k := 2) rfl (by decide) (by decide) rfl (fun ls hl => ?_)
                refine lv_goto (tgt := 59) hx hb dX7_agreement_138 (by decide) ?_
                exact ih59 (j + 1) (by omega) (by omega) H locs ls (h.eq (congrArg (lay tc ad gm dz) rfl)) (lv_sub hl [0, 3, 1, 2, 4, 5, 6] rfl)
