set_option maxHeartbeats 4000000 in
set_option maxRecDepth 100000 in
theorem m_X7_greater {l : Launch} {D : va_G} {tc : TC} {dz : Nat} {ad : KN → Nat} {Ks : List KN} {gm : GM} (I : Mem) (a z : Int32) : MI l yX7_greater cX7_greater 2 (Option.some ClassFile.FieldType.int) 0 D tc dz ad Ks (lay tc ad gm dz I) [.int a, .int z] (imax a z) (lay tc ad gm dz I) := by
  intro sz
  refine x_ofW (by decide +kernel) (Nat.le_of_ble_eq_true rfl) (fun pp ee s mm bel meth cd ls X hr hin hz h hl => ?_)
  subst hz
  obtain ⟨hx, hb, hmaxL, hown, hts⟩ := id X.1
  have hl : lv_has ls 2 [(0, .int a), (1, .int z)] := hl
  refine lv_iload_n hx hb dX7_greater_0 rfl (lv_at hl 0 rfl) ?_
  refine lv_iload_n hx hb dX7_greater_1 rfl (lv_at hl 1 rfl) ?_
  refine lv_icmp_le (tgt := 9) hx hb dX7_greater_2 (by decide) (fun c_2 => ?_) (fun c_2 => ?_)
  · skip
    refine lv_iload_n hx hb dX7_greater_9 rfl (lv_at hl 1 rfl) ?_
    refine x_iret X h hr rfl ?_ (fun _ _ => rfl) dX7_greater_10
    · exact imax_le c_2
  · skip
    refine lv_iload_n hx hb dX7_greater_5 rfl (lv_at hl 0 rfl) ?_
    refine lv_goto (tgt := 10) hx hb dX7_greater_6 (by decide) ?_
    refine x_iret X h hr rfl ?_ (fun _ _ => rfl) dX7_greater_10
    · exact imax_gt c_2

set_option maxHeartbeats 4000000 in
set_option maxRecDepth 100000 in
theorem m_X7_forgets {l : Launch} {D : va_G} {tc : TC} {dz : Nat} {ad : KN → Nat} {Ks : List KN} {gm : GM} (I : Mem) (hL : LV gm Ks) (d e : Nat) (hd : d < 6) (he : e < 10) (m : Nat) (hm : I (30, 0, 0, 0) 2 = nI m) (hm5 : m ≤ 1000) : MV l yX7_forgets cX7_forgets 6 1 D tc dz ad Ks (lay tc ad gm dz I) [.ref (ad (30, 0, 0, 0)), .int (nI d), .int (nI e)] (lay tc ad gm dz (mforM I d e m)) := by
  intro sz
  refine x_ofW (by decide +kernel) (Nat.le_of_ble_eq_true rfl) (fun pp ee s mm bel meth cd ls X hr hin hz h hl => ?_)
  subst hz
  obtain ⟨hx, hb, hmaxL, hown, hts⟩ := id X.1
  have hl : lv_has ls 6 [(0, .ref (ad (30, 0, 0, 0))), (1, .int (nI d)), (2, .int (nI e))] := hl
  refine lv_bipush (v := nI 24) hx hb dX7_forgets_0 (by decide) ?_
  refine lv_iload_n hx hb dX7_forgets_2 rfl (lv_at hl 1 rfl) ?_
  refine lv_iload_n hx hb dX7_forgets_3 rfl (lv_at hl 2 rfl) ?_
  refine x_doneI X h (x_runS X h (m_X7_pair I d e _) F_X7_pair q867 q868 rfl (by decide) (by decide) ⟨Nat.le_refl _, Nat.le_refl _⟩ hl.1 (Nat.le_of_ble_eq_true rfl) dX7_forgets_4 rfl) (fun H locs h => ?_)
  refine n_imul hx hb dX7_forgets_7 ?_
  refine lv_istore_n (lv' := [(3, .int (nI (24 * (10 * d + e)))), (0, .ref (ad (30, 0, 0, 0))), (1, .int (nI d)), (2, .int (nI e))]) hx hb dX7_forgets_8 rfl hl (by decide) rfl (fun ls hl => ?_)
  refine lv_iconst (v := nI 0) hx hb dX7_forgets_9 (by decide) ?_
  refine lv_istore (lv' := [(4, .int (nI 0)), (3, .int (nI (24 * (10 * d + e)))), (0, .ref (ad (30, 0, 0, 0))), (1, .int (nI d)), (2, .int (nI e))]) hx hb dX7_forgets_10 hl (by decide) rfl (fun ls hl => ?_)
  refine y_loop (D := D) (A := wA ad Ks s.heap.size) (ad := ad) (Ks := Ks) (nL := 6) (fun i : Nat => lay tc ad gm dz (sset (sset (sset I (39, 0, 0, 0) (rf (24 * (10 * d + e)) ((24 * (10 * d + e)) + i) (gM (I (39, 0, 0, 0)) (I (37, 0, 0, 0))) (I (39, 0, 0, 0)))) (35, 0, 0, 0) (rf (24 * (10 * d + e)) ((24 * (10 * d + e)) + i) z0 (I (35, 0, 0, 0)))) (37, 0, 0, 0) (rf (24 * (10 * d + e)) ((24 * (10 * d + e)) + i) z0 (I (37, 0, 0, 0))))) (fun i => [(4, .int (nI i)), (3, .int (nI (24 * (10 * d + e)))), (2, .int (nI e)), (1, .int (nI d)), (0, .ref (ad (30, 0, 0, 0)))]) (fun _ => []) (fun i : Nat => i ≤ 24) (fun i => 24 - i) (fun i hi12 ih12 H locs ls h hl => ?_) 0 (Nat.zero_le _) (h.eq (congrArg (lay tc ad gm dz) (by simp only [Nat.add_zero, rf_0, sset_id]))) (lv_sub hl [0, 1, 4, 3, 2] rfl) rfl
  have h : Sx D (wA ad Ks s.heap.size) ad Ks (lay tc ad gm dz (sset (sset (sset I (39, 0, 0, 0) (rf (24 * (10 * d + e)) ((24 * (10 * d + e)) + i) (gM (I (39, 0, 0, 0)) (I (37, 0, 0, 0))) (I (39, 0, 0, 0)))) (35, 0, 0, 0) (rf (24 * (10 * d + e)) ((24 * (10 * d + e)) + i) z0 (I (35, 0, 0, 0)))) (37, 0, 0, 0) (rf (24 * (10 * d + e)) ((24 * (10 * d + e)) + i) z0 (I (37, 0, 0, 0))))) s H locs := h
  have hl : lv_has ls 6 [(4, .int (nI i)), (3, .int (nI (24 * (10 * d + e)))), (2, .int (nI e)), (1, .int (nI d)), (0, .ref (ad (30, 0, 0, 0)))] := hl
  refine lv_iload hx hb dX7_forgets_12 (lv_at hl 0 rfl) ?_
  refine lv_bipush (v := nI 24) hx hb dX7_forgets_14 (by decide) ?_
  refine n_icmp_ge (tgt := 75) hx hb (by omega) (by omega) dX7_forgets_16 (by decide) (fun c_16 => ?_) (fun c_16 => ?_)
  · skip
    obtain rfl : i = 24 := by omega
    refine lv_iconst (v := nI 0) hx hb dX7_forgets_75 (by decide) ?_
    refine lv_istore (lv' := [(4, .int (nI 0)), (3, .int (nI (24 * (10 * d + e)))), (2, .int (nI e)), (1, .int (nI d)), (0, .ref (ad (30, 0, 0, 0)))]) hx hb dX7_forgets_76 hl (by decide) rfl (fun ls hl => ?_)
    refine y_loop (D := D) (A := wA ad Ks s.heap.size) (ad := ad) (Ks := Ks) (nL := 6) (fun i : Nat => lay tc ad gm dz (sset (sset (sset (sset I (39, 0, 0, 0) (mfN I d e i)) (35, 0, 0, 0) (rf (24 * (10 * d + e)) ((24 * (10 * d + e)) + 24) z0 (I (35, 0, 0, 0)))) (37, 0, 0, 0) (rf (24 * (10 * d + e)) ((24 * (10 * d + e)) + 24) z0 (I (37, 0, 0, 0)))) (42, 0, 0, 0) (mfS I d e i))) (fun i => [(4, .int (nI i)), (3, .int (nI (24 * (10 * d + e)))), (2, .int (nI e)), (1, .int (nI d)), (0, .ref (ad (30, 0, 0, 0)))]) (fun _ => []) (fun i : Nat => i ≤ m) (fun i => m - i) (fun i hi78 ih78 H locs ls h hl => ?_) 0 (Nat.zero_le _) (h.eq (congrArg (lay tc ad gm dz) (by rw [mfS_0]; rw [show (I (42, 0, 0, 0)) = ((sset (sset (sset I (39, 0, 0, 0) (rf (24 * (10 * d + e)) ((24 * (10 * d + e)) + 24) (gM (I (39, 0, 0, 0)) (I (37, 0, 0, 0))) (I (39, 0, 0, 0)))) (35, 0, 0, 0) (rf (24 * (10 * d + e)) ((24 * (10 * d + e)) + 24) z0 (I (35, 0, 0, 0)))) (37, 0, 0, 0) (rf (24 * (10 * d + e)) ((24 * (10 * d + e)) + 24) z0 (I (37, 0, 0, 0)))) (42, 0, 0, 0)) from by simp only [sset_ne _ _ (nek (by decide) : ((42, 0, 0, 0) : KN) ≠ (39, 0, 0, 0)), sset_ne _ _ (nek (by decide) : ((42, 0, 0, 0) : KN) ≠ (35, 0, 0, 0)), sset_ne _ _ (nek (by decide) : ((42, 0, 0, 0) : KN) ≠ (37, 0, 0, 0))]]; exact (sset_id _ _).symm))) (lv_sub hl [0, 1, 2, 3, 4] rfl) rfl
    have h : Sx D (wA ad Ks s.heap.size) ad Ks (lay tc ad gm dz (sset (sset (sset (sset I (39, 0, 0, 0) (mfN I d e i)) (35, 0, 0, 0) (rf (24 * (10 * d + e)) ((24 * (10 * d + e)) + 24) z0 (I (35, 0, 0, 0)))) (37, 0, 0, 0) (rf (24 * (10 * d + e)) ((24 * (10 * d + e)) + 24) z0 (I (37, 0, 0, 0)))) (42, 0, 0, 0) (mfS I d e i))) s H locs := h
    have hl : lv_has ls 6 [(4, .int (nI i)), (3, .int (nI (24 * (10 * d + e)))), (2, .int (nI e)), (1, .int (nI d)), (0, .ref (ad (30, 0, 0, 0)))] := hl
    refine lv_iload hx hb dX7_forgets_78 (lv_at hl 0 rfl) ?_
    refine lv_aload_n hx hb dX7_forgets_80 rfl (lv_at hl 4 rfl) ?_
    refine gf_Model_marks X h (hL (30, 0, 0, 0) ⟨by decide, rfl, rfl, rfl⟩) q807 (v := nI m) (by simp only [sset_ne _ _ (nek (by decide) : ((30, 0, 0, 0) : KN) ≠ (42, 0, 0, 0)), sset_ne _ _ (nek (by decide) : ((30, 0, 0, 0) : KN) ≠ (37, 0, 0, 0)), sset_ne _ _ (nek (by decide) : ((30, 0, 0, 0) : KN) ≠ (35, 0, 0, 0)), sset_ne _ _ (nek (by decide) : ((30, 0, 0, 0) : KN) ≠ (39, 0, 0, 0))]; exact hm) dX7_forgets_81 ?_
    refine n_icmp_ge (tgt := 177) hx hb (by omega) (by omega) dX7_forgets_84 (by decide) (fun c_84 => ?_) (fun c_84 => ?_)
    · skip
      have him : m = i := by omega
      subst him
      refine lv_aload_n hx hb dX7_forgets_177 rfl (lv_at hl 4 rfl) ?_
      refine gf_Model_hasNote X h (hL (30, 0, 0, 0) ⟨by decide, rfl, rfl, rfl⟩) q805 dX7_forgets_178 ?_
      refine lv_iload_n hx hb dX7_forgets_181 rfl (lv_at hl 3 rfl) ?_
      refine lv_iload_n hx hb dX7_forgets_182 rfl (lv_at hl 2 rfl) ?_
      refine x_doneI X h (x_runS X h (m_X7_pair (sset (sset (sset (sset I (39, 0, 0, 0) (mfN I d e m)) (35, 0, 0, 0) (rf (24 * (10 * d + e)) ((24 * (10 * d + e)) + 24) z0 (I (35, 0, 0, 0)))) (37, 0, 0, 0) (rf (24 * (10 * d + e)) ((24 * (10 * d + e)) + 24) z0 (I (37, 0, 0, 0)))) (42, 0, 0, 0) (mfS I d e m)) d e _) F_X7_pair q867 q868 rfl (by decide) (by decide) ⟨Nat.le_refl _, Nat.le_refl _⟩ hl.1 (Nat.le_of_ble_eq_true rfl) dX7_forgets_183 rfl) (fun H locs h => ?_)
      refine lv_iconst (v := nI 1) hx hb dX7_forgets_186 (by decide) ?_
      refine y_zast X h (fun _ => rfl) (by decide) (hL (38, 0, 0, 0) ⟨by decide, rfl, rfl, rfl⟩) (by omega) (by decide) dX7_forgets_187 (fun H locs h => ?_)
      refine lv_aload_n hx hb dX7_forgets_188 rfl (lv_at hl 4 rfl) ?_
      refine gf_Model_knows X h (hL (30, 0, 0, 0) ⟨by decide, rfl, rfl, rfl⟩) q801 dX7_forgets_189 ?_
      refine lv_iload_n hx hb dX7_forgets_192 rfl (lv_at hl 3 rfl) ?_
      refine lv_iload_n hx hb dX7_forgets_193 rfl (lv_at hl 2 rfl) ?_
      refine x_doneI X h (x_runS X h (m_X7_pair (sset (sset (sset (sset (sset I (39, 0, 0, 0) (mfN I d e m)) (35, 0, 0, 0) (rf (24 * (10 * d + e)) ((24 * (10 * d + e)) + 24) z0 (I (35, 0, 0, 0)))) (37, 0, 0, 0) (rf (24 * (10 * d + e)) ((24 * (10 * d + e)) + 24) z0 (I (37, 0, 0, 0)))) (42, 0, 0, 0) (mfS I d e m)) (38, 0, 0, 0) (upd ((sset (sset (sset (sset I (39, 0, 0, 0) (mfN I d e m)) (35, 0, 0, 0) (rf (24 * (10 * d + e)) ((24 * (10 * d + e)) + 24) z0 (I (35, 0, 0, 0)))) (37, 0, 0, 0) (rf (24 * (10 * d + e)) ((24 * (10 * d + e)) + 24) z0 (I (37, 0, 0, 0)))) (42, 0, 0, 0) (mfS I d e m)) (38, 0, 0, 0)) (10 * d + e) (nI 1))) d e _) F_X7_pair q867 q868 rfl (by decide) (by decide) ⟨Nat.le_refl _, Nat.le_refl _⟩ hl.1 (Nat.le_of_ble_eq_true rfl) dX7_forgets_194 rfl) (fun H locs h => ?_)
      refine lv_iconst (v := nI 0) hx hb dX7_forgets_197 (by decide) ?_
      refine y_zast X h (fun _ => rfl) (by decide) (hL (34, 0, 0, 0) ⟨by decide, rfl, rfl, rfl⟩) (by omega) (by decide) dX7_forgets_198 (fun H locs h => ?_)
      refine x_vret X h hr (fun k _ => congrFun (congrArg (lay tc ad gm dz) ?_) k) dX7_forgets_199
      · simp only [mforM, sset_ne _ _ (nek (by decide) : ((34, 0, 0, 0) : KN) ≠ (38, 0, 0, 0)), sset_ne _ _ (nek (by decide) : ((34, 0, 0, 0) : KN) ≠ (42, 0, 0, 0)), sset_ne _ _ (nek (by decide) : ((34, 0, 0, 0) : KN) ≠ (37, 0, 0, 0)), sset_ne _ _ (nek (by decide) : ((34, 0, 0, 0) : KN) ≠ (35, 0, 0, 0)), sset_ne _ _ (nek (by decide) : ((34, 0, 0, 0) : KN) ≠ (39, 0, 0, 0)), sset_ne _ _ (nek (by decide) : ((38, 0, 0, 0) : KN) ≠ (42, 0, 0, 0)), sset_ne _ _ (nek (by decide) : ((38, 0, 0, 0) : KN) ≠ (37, 0, 0, 0)), sset_ne _ _ (nek (by decide) : ((38, 0, 0, 0) : KN) ≠ (35, 0, 0, 0)), sset_ne _ _ (nek (by decide) : ((38, 0, 0, 0) : KN) ≠ (39, 0, 0, 0))]
    · skip
      refine lv_aload_n hx hb dX7_forgets_87 rfl (lv_at hl 4 rfl) ?_
      refine gf_Model_markOf X h (hL (30, 0, 0, 0) ⟨by decide, rfl, rfl, rfl⟩) q808 dX7_forgets_88 ?_
      refine lv_iload hx hb dX7_forgets_91 (lv_at hl 0 rfl) ?_
      refine y_ald X h (fun _ => rfl) (by decide) (hL (40, 0, 0, 0) ⟨by decide, rfl, rfl, rfl⟩) (by omega) (v := (I (40, 0, 0, 0)) i) (by simp only [sset_ne _ _ (nek (by decide) : ((40, 0, 0, 0) : KN) ≠ (42, 0, 0, 0)), sset_ne _ _ (nek (by decide) : ((40, 0, 0, 0) : KN) ≠ (37, 0, 0, 0)), sset_ne _ _ (nek (by decide) : ((40, 0, 0, 0) : KN) ≠ (35, 0, 0, 0)), sset_ne _ _ (nek (by decide) : ((40, 0, 0, 0) : KN) ≠ (39, 0, 0, 0))]) dX7_forgets_93 ?_
      refine lv_iload_n hx hb dX7_forgets_94 rfl (lv_at hl 2 rfl) ?_
      refine lv_icmp_ne (tgt := 171) hx hb dX7_forgets_95 (by decide) (fun c_95 => ?_) (fun c_95 => ?_)
      · skip
        refine n_iinc (j := i) (n := 1) (lv' := [(4, .int (nI (i + 1))), (3, .int (nI (24 * (10 * d + e)))), (2, .int (nI e)), (1, .int (nI d)), (0, .ref (ad (30, 0, 0, 0)))]) hx hb dX7_forgets_171 hl (k := 0) rfl (by decide) (by decide) rfl (fun ls hl => ?_)
        refine lv_goto (tgt := 78) hx hb dX7_forgets_174 (by decide) ?_
        have hm : (sset (sset (sset (sset I (39, 0, 0, 0) (mfN I d e i)) (35, 0, 0, 0) (rf (24 * (10 * d + e)) ((24 * (10 * d + e)) + 24) z0 (I (35, 0, 0, 0)))) (37, 0, 0, 0) (rf (24 * (10 * d + e)) ((24 * (10 * d + e)) + 24) z0 (I (37, 0, 0, 0)))) (42, 0, 0, 0) (mfS I d e i)) = (sset (sset (sset (sset I (39, 0, 0, 0) (mfN I d e (i + 1))) (35, 0, 0, 0) (rf (24 * (10 * d + e)) ((24 * (10 * d + e)) + 24) z0 (I (35, 0, 0, 0)))) (37, 0, 0, 0) (rf (24 * (10 * d + e)) ((24 * (10 * d + e)) + 24) z0 (I (37, 0, 0, 0)))) (42, 0, 0, 0) (mfS I d e (i + 1))) := by
          rw [mfN, if_neg (by simp only [mo, c_95, decide_true, decide_false, Bool.not_true, Bool.not_false, Bool.and_true, Bool.and_false, Bool.true_and, Bool.false_and, Bool.or_true, Bool.or_false, Bool.true_or, Bool.false_or, Bool.and_self, Bool.or_self, ↓reduceIte, Bool.false_eq_true, not_false_eq_true, not_true_eq_false]), ← mfS_s2 (Or.inl (decide_eq_false c_95))]
        exact ih78 (i + 1) (by omega) (by omega) H locs ls (h.eq (congrArg (lay tc ad gm dz) hm)) (lv_sub hl [0, 1, 2, 3, 4] rfl)
      · skip
        refine lv_aload_n hx hb dX7_forgets_98 rfl (lv_at hl 4 rfl) ?_
        refine lv_iload_n hx hb dX7_forgets_99 rfl (lv_at hl 3 rfl) ?_
        refine lv_iload hx hb dX7_forgets_100 (lv_at hl 0 rfl) ?_
        refine x_doneI X h (x_runV X h (k := (30, 0, 0, 0)) (m_X7_isKnownMark (sset (sset (sset (sset I (39, 0, 0, 0) (mfN I d e i)) (35, 0, 0, 0) (rf (24 * (10 * d + e)) ((24 * (10 * d + e)) + 24) z0 (I (35, 0, 0, 0)))) (37, 0, 0, 0) (rf (24 * (10 * d + e)) ((24 * (10 * d + e)) + 24) z0 (I (37, 0, 0, 0)))) (42, 0, 0, 0) (mfS I d e i)) hL d i (by omega) (by omega) _) F_X7_isKnownMark q912 q914 q13 (hL (30, 0, 0, 0) ⟨by decide, rfl, rfl, rfl⟩) rfl rfl rfl (by decide) (by decide) ⟨Nat.le_refl _, Nat.le_refl _⟩ hl.1 (Nat.le_of_ble_eq_true rfl) dX7_forgets_102 rfl) (fun H locs h => ?_)
        refine b_if_eq (tgt := 171) hx hb dX7_forgets_105 (by decide) (fun c_105 => ?_) (fun c_105 => ?_)
        · skip
          have hk : kmk I d i = false := by rw [← c_105]; simp only [kmk, sset_ne _ _ (nek (by decide) : ((42, 0, 0, 0) : KN) ≠ (39, 0, 0, 0)), sset_ne _ _ (nek (by decide) : ((42, 0, 0, 0) : KN) ≠ (35, 0, 0, 0)), sset_ne _ _ (nek (by decide) : ((42, 0, 0, 0) : KN) ≠ (37, 0, 0, 0)), sset_eq, mfS_at hd]
          refine n_iinc (j := i) (n := 1) (lv' := [(4, .int (nI (i + 1))), (3, .int (nI (24 * (10 * d + e)))), (2, .int (nI e)), (1, .int (nI d)), (0, .ref (ad (30, 0, 0, 0)))]) hx hb dX7_forgets_171 hl (k := 0) rfl (by decide) (by decide) rfl (fun ls hl => ?_)
          refine lv_goto (tgt := 78) hx hb dX7_forgets_174 (by decide) ?_
          have hm : (sset (sset (sset (sset I (39, 0, 0, 0) (mfN I d e i)) (35, 0, 0, 0) (rf (24 * (10 * d + e)) ((24 * (10 * d + e)) + 24) z0 (I (35, 0, 0, 0)))) (37, 0, 0, 0) (rf (24 * (10 * d + e)) ((24 * (10 * d + e)) + 24) z0 (I (37, 0, 0, 0)))) (42, 0, 0, 0) (mfS I d e i)) = (sset (sset (sset (sset I (39, 0, 0, 0) (mfN I d e (i + 1))) (35, 0, 0, 0) (rf (24 * (10 * d + e)) ((24 * (10 * d + e)) + 24) z0 (I (35, 0, 0, 0)))) (37, 0, 0, 0) (rf (24 * (10 * d + e)) ((24 * (10 * d + e)) + 24) z0 (I (37, 0, 0, 0)))) (42, 0, 0, 0) (mfS I d e (i + 1))) := by
            rw [mfN, if_neg (by simp only [hk, decide_true, decide_false, Bool.not_true, Bool.not_false, Bool.and_true, Bool.and_false, Bool.true_and, Bool.false_and, Bool.or_true, Bool.or_false, Bool.true_or, Bool.false_or, Bool.and_self, Bool.or_self, ↓reduceIte, Bool.false_eq_true, not_false_eq_true, not_true_eq_false]), ← mfS_s2 (Or.inr hk)]
          exact ih78 (i + 1) (by omega) (by omega) H locs ls (h.eq (congrArg (lay tc ad gm dz) hm)) (lv_sub hl [0, 1, 2, 3, 4] rfl)
        · skip
          have hk : kmk I d i = true := by rw [← c_105]; simp only [kmk, sset_ne _ _ (nek (by decide) : ((42, 0, 0, 0) : KN) ≠ (39, 0, 0, 0)), sset_ne _ _ (nek (by decide) : ((42, 0, 0, 0) : KN) ≠ (35, 0, 0, 0)), sset_ne _ _ (nek (by decide) : ((42, 0, 0, 0) : KN) ≠ (37, 0, 0, 0)), sset_eq, mfS_at hd]
          refine lv_iconst (v := nI 0) hx hb dX7_forgets_108 (by decide) ?_
          refine lv_istore (lv' := [(5, .int (nI 0)), (4, .int (nI i)), (3, .int (nI (24 * (10 * d + e)))), (2, .int (nI e)), (1, .int (nI d)), (0, .ref (ad (30, 0, 0, 0)))]) hx hb dX7_forgets_109 hl (by decide) rfl (fun ls hl => ?_)
          refine y_loop (D := D) (A := wA ad Ks s.heap.size) (ad := ad) (Ks := Ks) (nL := 6) (fun j : Nat => lay tc ad gm dz (sset (sset (sset (sset I (39, 0, 0, 0) (rf (24 * (10 * d + e)) ((24 * (10 * d + e)) + j) (fun x => imax (mfN I d e i x) (I (41, 0, 0, 0) (24 * i + (x - 24 * (10 * d + e))))) (mfN I d e i))) (35, 0, 0, 0) (rf (24 * (10 * d + e)) ((24 * (10 * d + e)) + 24) z0 (I (35, 0, 0, 0)))) (37, 0, 0, 0) (rf (24 * (10 * d + e)) ((24 * (10 * d + e)) + 24) z0 (I (37, 0, 0, 0)))) (42, 0, 0, 0) (mfS I d e i))) (fun j => [(5, .int (nI j)), (4, .int (nI i)), (3, .int (nI (24 * (10 * d + e)))), (2, .int (nI e)), (1, .int (nI d)), (0, .ref (ad (30, 0, 0, 0)))]) (fun _ => []) (fun j : Nat => j ≤ 24) (fun j => 24 - j) (fun j hi111 ih111 H locs ls h hl => ?_) 0 (Nat.zero_le _) (h.eq (congrArg (lay tc ad gm dz) (by simp only [Nat.add_zero, rf_0]))) (lv_sub hl [0, 1, 2, 3, 4, 5] rfl) rfl
          have h : Sx D (wA ad Ks s.heap.size) ad Ks (lay tc ad gm dz (sset (sset (sset (sset I (39, 0, 0, 0) (rf (24 * (10 * d + e)) ((24 * (10 * d + e)) + j) (fun x => imax (mfN I d e i x) (I (41, 0, 0, 0) (24 * i + (x - 24 * (10 * d + e))))) (mfN I d e i))) (35, 0, 0, 0) (rf (24 * (10 * d + e)) ((24 * (10 * d + e)) + 24) z0 (I (35, 0, 0, 0)))) (37, 0, 0, 0) (rf (24 * (10 * d + e)) ((24 * (10 * d + e)) + 24) z0 (I (37, 0, 0, 0)))) (42, 0, 0, 0) (mfS I d e i))) s H locs := h
          have hl : lv_has ls 6 [(5, .int (nI j)), (4, .int (nI i)), (3, .int (nI (24 * (10 * d + e)))), (2, .int (nI e)), (1, .int (nI d)), (0, .ref (ad (30, 0, 0, 0)))] := hl
          refine lv_iload hx hb dX7_forgets_111 (lv_at hl 0 rfl) ?_
          refine lv_bipush (v := nI 24) hx hb dX7_forgets_113 (by decide) ?_
          refine n_icmp_ge (tgt := 158) hx hb (by omega) (by omega) dX7_forgets_115 (by decide) (fun c_115 => ?_) (fun c_115 => ?_)
          · skip
            obtain rfl : j = 24 := by omega
            refine lv_aload_n hx hb dX7_forgets_158 rfl (lv_at hl 5 rfl) ?_
            refine gf_Model_since X h (hL (30, 0, 0, 0) ⟨by decide, rfl, rfl, rfl⟩) q810 dX7_forgets_159 ?_
            refine lv_bipush (v := nI 6) hx hb dX7_forgets_162 (by decide) ?_
            refine lv_iload hx hb dX7_forgets_164 (lv_at hl 1 rfl) ?_
            refine n_imul hx hb dX7_forgets_166 ?_
            refine lv_iload_n hx hb dX7_forgets_167 rfl (lv_at hl 4 rfl) ?_
            refine n_iadd hx hb dX7_forgets_168 ?_
            refine lv_iconst (v := nI 0) hx hb dX7_forgets_169 (by decide) ?_
            refine y_ast X h (fun _ => rfl) (by decide) (hL (42, 0, 0, 0) ⟨by decide, rfl, rfl, rfl⟩) (by omega) dX7_forgets_170 (fun H locs h => ?_)
            refine n_iinc (j := i) (n := 1) (lv' := [(4, .int (nI (i + 1))), (5, .int (nI 24)), (3, .int (nI (24 * (10 * d + e)))), (2, .int (nI e)), (1, .int (nI d)), (0, .ref (ad (30, 0, 0, 0)))]) hx hb dX7_forgets_171 hl (k := 1) rfl (by decide) (by decide) rfl (fun ls hl => ?_)
            refine lv_goto (tgt := 78) hx hb dX7_forgets_174 (by decide) ?_
            have hm : (sset (sset (sset (sset (sset I (39, 0, 0, 0) (rf (24 * (10 * d + e)) ((24 * (10 * d + e)) + 24) (fun x => imax (mfN I d e i x) (I (41, 0, 0, 0) (24 * i + (x - 24 * (10 * d + e))))) (mfN I d e i))) (35, 0, 0, 0) (rf (24 * (10 * d + e)) ((24 * (10 * d + e)) + 24) z0 (I (35, 0, 0, 0)))) (37, 0, 0, 0) (rf (24 * (10 * d + e)) ((24 * (10 * d + e)) + 24) z0 (I (37, 0, 0, 0)))) (42, 0, 0, 0) (mfS I d e i)) (42, 0, 0, 0) (upd ((sset (sset (sset (sset I (39, 0, 0, 0) (rf (24 * (10 * d + e)) ((24 * (10 * d + e)) + 24) (fun x => imax (mfN I d e i x) (I (41, 0, 0, 0) (24 * i + (x - 24 * (10 * d + e))))) (mfN I d e i))) (35, 0, 0, 0) (rf (24 * (10 * d + e)) ((24 * (10 * d + e)) + 24) z0 (I (35, 0, 0, 0)))) (37, 0, 0, 0) (rf (24 * (10 * d + e)) ((24 * (10 * d + e)) + 24) z0 (I (37, 0, 0, 0)))) (42, 0, 0, 0) (mfS I d e i)) (42, 0, 0, 0)) ((6 * i) + d) (nI 0))) = (sset (sset (sset (sset I (39, 0, 0, 0) (mfN I d e (i + 1))) (35, 0, 0, 0) (rf (24 * (10 * d + e)) ((24 * (10 * d + e)) + 24) z0 (I (35, 0, 0, 0)))) (37, 0, 0, 0) (rf (24 * (10 * d + e)) ((24 * (10 * d + e)) + 24) z0 (I (37, 0, 0, 0)))) (42, 0, 0, 0) (mfS I d e (i + 1))) := by
              funext nn
              by_cases e0 : nn = (39, 0, 0, 0)
              · rw [e0]
                simp only [sset_eq, sset_ne _ _ (nek (by decide) : (39, 0, 0, 0) ≠ (35, 0, 0, 0)), sset_ne _ _ (nek (by decide) : (39, 0, 0, 0) ≠ (37, 0, 0, 0)), sset_ne _ _ (nek (by decide) : (39, 0, 0, 0) ≠ (42, 0, 0, 0))]
                rw [mfN, if_pos (by simp only [mo, c_95, hk, decide_true, decide_false, Bool.not_true, Bool.not_false, Bool.and_true, Bool.and_false, Bool.true_and, Bool.false_and, Bool.or_true, Bool.or_false, Bool.true_or, Bool.false_or, Bool.and_self, Bool.or_self, ↓reduceIte, Bool.false_eq_true, not_false_eq_true, not_true_eq_false])]
              · skip
                by_cases e1 : nn = (35, 0, 0, 0)
                · rw [e1]
                  simp only [sset_eq, sset_ne _ _ (nek (by decide) : (35, 0, 0, 0) ≠ (39, 0, 0, 0)), sset_ne _ _ (nek (by decide) : (35, 0, 0, 0) ≠ (37, 0, 0, 0)), sset_ne _ _ (nek (by decide) : (35, 0, 0, 0) ≠ (42, 0, 0, 0))]
                  all_goals rfl
                · skip
                  by_cases e2 : nn = (37, 0, 0, 0)
                  · rw [e2]
                    simp only [sset_eq, sset_ne _ _ (nek (by decide) : (37, 0, 0, 0) ≠ (39, 0, 0, 0)), sset_ne _ _ (nek (by decide) : (37, 0, 0, 0) ≠ (35, 0, 0, 0)), sset_ne _ _ (nek (by decide) : (37, 0, 0, 0) ≠ (42, 0, 0, 0))]
                    all_goals rfl
                  · skip
                    by_cases e3 : nn = (42, 0, 0, 0)
                    · rw [e3]
                      simp only [sset_eq, sset_ne _ _ (nek (by decide) : (42, 0, 0, 0) ≠ (39, 0, 0, 0)), sset_ne _ _ (nek (by decide) : (42, 0, 0, 0) ≠ (35, 0, 0, 0)), sset_ne _ _ (nek (by decide) : (42, 0, 0, 0) ≠ (37, 0, 0, 0))]
                      exact mfS_s1 hd (decide_eq_true c_95) hk
                    · skip
                      simp only [sset_ne _ _ e0, sset_ne _ _ e1, sset_ne _ _ e2, sset_ne _ _ e3]
            exact ih78 (i + 1) (by omega) (by omega) H locs ls (h.eq (congrArg (lay tc ad gm dz) hm)) (lv_sub hl [0, 2, 3, 4, 5] rfl)
          · skip
            refine lv_aload_n hx hb dX7_forgets_118 rfl (lv_at hl 5 rfl) ?_
            refine gf_Model_note X h (hL (30, 0, 0, 0) ⟨by decide, rfl, rfl, rfl⟩) q806 dX7_forgets_119 ?_
            refine lv_iload_n hx hb dX7_forgets_122 rfl (lv_at hl 2 rfl) ?_
            refine lv_iload hx hb dX7_forgets_123 (lv_at hl 0 rfl) ?_
            refine n_iadd hx hb dX7_forgets_125 ?_
            refine lv_aload_n hx hb dX7_forgets_126 rfl (lv_at hl 5 rfl) ?_
            refine gf_Model_note X h (hL (30, 0, 0, 0) ⟨by decide, rfl, rfl, rfl⟩) q806 dX7_forgets_127 ?_
            refine lv_iload_n hx hb dX7_forgets_130 rfl (lv_at hl 2 rfl) ?_
            refine lv_iload hx hb dX7_forgets_131 (lv_at hl 0 rfl) ?_
            refine n_iadd hx hb dX7_forgets_133 ?_
            refine y_ald X h (fun _ => rfl) (by decide) (hL (39, 0, 0, 0) ⟨by decide, rfl, rfl, rfl⟩) (by omega) (v := mfN I d e i ((24 * (10 * d + e)) + j)) (by simp only [sset_ne _ _ (nek (by decide) : ((39, 0, 0, 0) : KN) ≠ (42, 0, 0, 0)), sset_ne _ _ (nek (by decide) : ((39, 0, 0, 0) : KN) ≠ (37, 0, 0, 0)), sset_ne _ _ (nek (by decide) : ((39, 0, 0, 0) : KN) ≠ (35, 0, 0, 0)), sset_eq]; exact rf_at _ _ _ _) dX7_forgets_134 ?_
            refine lv_aload_n hx hb dX7_forgets_135 rfl (lv_at hl 5 rfl) ?_
            refine gf_Model_copy X h (hL (30, 0, 0, 0) ⟨by decide, rfl, rfl, rfl⟩) q809 dX7_forgets_136 ?_
            refine lv_bipush (v := nI 24) hx hb dX7_forgets_139 (by decide) ?_
            refine lv_iload hx hb dX7_forgets_141 (lv_at hl 1 rfl) ?_
            refine n_imul hx hb dX7_forgets_143 ?_
            refine lv_iload hx hb dX7_forgets_144 (lv_at hl 0 rfl) ?_
            refine n_iadd hx hb dX7_forgets_146 ?_
            refine y_ald X h (fun _ => rfl) (by decide) (hL (41, 0, 0, 0) ⟨by decide, rfl, rfl, rfl⟩) (by omega) (v := (I (41, 0, 0, 0)) (24 * i + j)) (by simp only [sset_ne _ _ (nek (by decide) : ((41, 0, 0, 0) : KN) ≠ (42, 0, 0, 0)), sset_ne _ _ (nek (by decide) : ((41, 0, 0, 0) : KN) ≠ (37, 0, 0, 0)), sset_ne _ _ (nek (by decide) : ((41, 0, 0, 0) : KN) ≠ (35, 0, 0, 0)), sset_ne _ _ (nek (by decide) : ((41, 0, 0, 0) : KN) ≠ (39, 0, 0, 0))]) dX7_forgets_147 ?_
            refine x_doneI X h (x_runS X h (m_X7_greater (sset (sset (sset (sset I (39, 0, 0, 0) (rf (24 * (10 * d + e)) ((24 * (10 * d + e)) + j) (fun x => imax (mfN I d e i x) (I (41, 0, 0, 0) (24 * i + (x - 24 * (10 * d + e))))) (mfN I d e i))) (35, 0, 0, 0) (rf (24 * (10 * d + e)) ((24 * (10 * d + e)) + 24) z0 (I (35, 0, 0, 0)))) (37, 0, 0, 0) (rf (24 * (10 * d + e)) ((24 * (10 * d + e)) + 24) z0 (I (37, 0, 0, 0)))) (42, 0, 0, 0) (mfS I d e i)) (mfN I d e i ((24 * (10 * d + e)) + j)) ((I (41, 0, 0, 0)) (24 * i + j)) _) F_X7_greater q940 q941 rfl (by decide) (by decide) ⟨Nat.le_refl _, Nat.le_refl _⟩ hl.1 (Nat.le_of_ble_eq_true rfl) dX7_forgets_148 rfl) (fun H locs h => ?_)
            refine y_ast X h (fun _ => rfl) (by decide) (hL (39, 0, 0, 0) ⟨by decide, rfl, rfl, rfl⟩) (by omega) dX7_forgets_151 (fun H locs h => ?_)
            refine n_iinc (j := j) (n := 1) (lv' := [(5, .int (nI (j + 1))), (4, .int (nI i)), (3, .int (nI (24 * (10 * d + e)))), (2, .int (nI e)), (1, .int (nI d)), (0, .ref (ad (30, 0, 0, 0)))]) hx hb dX7_forgets_152 hl (k := 0) rfl (by decide) (by decide) rfl (fun ls hl => ?_)
            refine lv_goto (tgt := 111) hx hb dX7_forgets_155 (by decide) ?_
            have hm : (sset (sset (sset (sset (sset I (39, 0, 0, 0) (rf (24 * (10 * d + e)) ((24 * (10 * d + e)) + j) (fun x => imax (mfN I d e i x) (I (41, 0, 0, 0) (24 * i + (x - 24 * (10 * d + e))))) (mfN I d e i))) (35, 0, 0, 0) (rf (24 * (10 * d + e)) ((24 * (10 * d + e)) + 24) z0 (I (35, 0, 0, 0)))) (37, 0, 0, 0) (rf (24 * (10 * d + e)) ((24 * (10 * d + e)) + 24) z0 (I (37, 0, 0, 0)))) (42, 0, 0, 0) (mfS I d e i)) (39, 0, 0, 0) (upd ((sset (sset (sset (sset I (39, 0, 0, 0) (rf (24 * (10 * d + e)) ((24 * (10 * d + e)) + j) (fun x => imax (mfN I d e i x) (I (41, 0, 0, 0) (24 * i + (x - 24 * (10 * d + e))))) (mfN I d e i))) (35, 0, 0, 0) (rf (24 * (10 * d + e)) ((24 * (10 * d + e)) + 24) z0 (I (35, 0, 0, 0)))) (37, 0, 0, 0) (rf (24 * (10 * d + e)) ((24 * (10 * d + e)) + 24) z0 (I (37, 0, 0, 0)))) (42, 0, 0, 0) (mfS I d e i)) (39, 0, 0, 0)) ((24 * (10 * d + e)) + j) (imax (mfN I d e i ((24 * (10 * d + e)) + j)) ((I (41, 0, 0, 0)) (24 * i + j))))) = (sset (sset (sset (sset I (39, 0, 0, 0) (rf (24 * (10 * d + e)) ((24 * (10 * d + e)) + (j + 1)) (fun x => imax (mfN I d e i x) (I (41, 0, 0, 0) (24 * i + (x - 24 * (10 * d + e))))) (mfN I d e i))) (35, 0, 0, 0) (rf (24 * (10 * d + e)) ((24 * (10 * d + e)) + 24) z0 (I (35, 0, 0, 0)))) (37, 0, 0, 0) (rf (24 * (10 * d + e)) ((24 * (10 * d + e)) + 24) z0 (I (37, 0, 0, 0)))) (42, 0, 0, 0) (mfS I d e i)) := by
              funext nn
              by_cases e0 : nn = (39, 0, 0, 0)
              · rw [e0]
                simp only [sset_eq, sset_ne _ _ (nek (by decide) : (39, 0, 0, 0) ≠ (35, 0, 0, 0)), sset_ne _ _ (nek (by decide) : (39, 0, 0, 0) ≠ (37, 0, 0, 0)), sset_ne _ _ (nek (by decide) : (39, 0, 0, 0) ≠ (42, 0, 0, 0))]
                exact rf_s _ _ _ _ (by simp only [Nat.add_sub_cancel_left])
              · skip
                by_cases e1 : nn = (35, 0, 0, 0)
                · rw [e1]
                  simp only [sset_eq, sset_ne _ _ (nek (by decide) : (35, 0, 0, 0) ≠ (39, 0, 0, 0)), sset_ne _ _ (nek (by decide) : (35, 0, 0, 0) ≠ (37, 0, 0, 0)), sset_ne _ _ (nek (by decide) : (35, 0, 0, 0) ≠ (42, 0, 0, 0))]
                  all_goals rfl
                · skip
                  by_cases e2 : nn = (37, 0, 0, 0)
                  · rw [e2]
                    simp only [sset_eq, sset_ne _ _ (nek (by decide) : (37, 0, 0, 0) ≠ (39, 0, 0, 0)), sset_ne _ _ (nek (by decide) : (37, 0, 0, 0) ≠ (35, 0, 0, 0)), sset_ne _ _ (nek (by decide) : (37, 0, 0, 0) ≠ (42, 0, 0, 0))]
                    all_goals rfl
                  · skip
                    by_cases e3 : nn = (42, 0, 0, 0)
                    · rw [e3]
                      simp only [sset_eq, sset_ne _ _ (nek (by decide) : (42, 0, 0, 0) ≠ (39, 0, 0, 0)), sset_ne _ _ (nek (by decide) : (42, 0, 0, 0) ≠ (35, 0, 0, 0)), sset_ne _ _ (nek (by decide) : (42, 0, 0, 0) ≠ (37, 0, 0, 0))]
                      all_goals rfl
                    · skip
                      simp only [sset_ne _ _ e0, sset_ne _ _ e1, sset_ne _ _ e2, sset_ne _ _ e3]
            exact ih111 (j + 1) (by omega) (by omega) H locs ls (h.eq (congrArg (lay tc ad gm dz) hm)) (lv_sub hl [0, 1, 2, 3, 4, 5] rfl)
  · skip
    refine lv_aload_n hx hb dX7_forgets_19 rfl (lv_at hl 4 rfl) ?_
    refine gf_Model_note X h (hL (30, 0, 0, 0) ⟨by decide, rfl, rfl, rfl⟩) q806 dX7_forgets_20 ?_
    refine lv_iload_n hx hb dX7_forgets_23 rfl (lv_at hl 1 rfl) ?_
    refine lv_iload hx hb dX7_forgets_24 (lv_at hl 0 rfl) ?_
    refine n_iadd hx hb dX7_forgets_26 ?_
    refine lv_aload_n hx hb dX7_forgets_27 rfl (lv_at hl 4 rfl) ?_
    refine gf_Model_note X h (hL (30, 0, 0, 0) ⟨by decide, rfl, rfl, rfl⟩) q806 dX7_forgets_28 ?_
    refine lv_iload_n hx hb dX7_forgets_31 rfl (lv_at hl 1 rfl) ?_
    refine lv_iload hx hb dX7_forgets_32 (lv_at hl 0 rfl) ?_
    refine n_iadd hx hb dX7_forgets_34 ?_
    refine y_ald X h (fun _ => rfl) (by decide) (hL (39, 0, 0, 0) ⟨by decide, rfl, rfl, rfl⟩) (by omega) (v := (I (39, 0, 0, 0)) ((24 * (10 * d + e)) + i)) (by simp only [sset_ne _ _ (nek (by decide) : ((39, 0, 0, 0) : KN) ≠ (37, 0, 0, 0)), sset_ne _ _ (nek (by decide) : ((39, 0, 0, 0) : KN) ≠ (35, 0, 0, 0)), sset_eq]; exact rf_at _ _ _ _) dX7_forgets_35 ?_
    refine lv_aload_n hx hb dX7_forgets_36 rfl (lv_at hl 4 rfl) ?_
    refine gf_Model_seen X h (hL (30, 0, 0, 0) ⟨by decide, rfl, rfl, rfl⟩) q804 dX7_forgets_37 ?_
    refine lv_iload_n hx hb dX7_forgets_40 rfl (lv_at hl 1 rfl) ?_
    refine lv_iload hx hb dX7_forgets_41 (lv_at hl 0 rfl) ?_
    refine n_iadd hx hb dX7_forgets_43 ?_
    refine y_ald X h (fun _ => rfl) (by decide) (hL (37, 0, 0, 0) ⟨by decide, rfl, rfl, rfl⟩) (by omega) (v := (I (37, 0, 0, 0)) ((24 * (10 * d + e)) + i)) (by simp only [sset_eq]; exact rf_at _ _ _ _) dX7_forgets_44 ?_
    refine x_doneI X h (x_runS X h (m_X7_greater (sset (sset (sset I (39, 0, 0, 0) (rf (24 * (10 * d + e)) ((24 * (10 * d + e)) + i) (gM (I (39, 0, 0, 0)) (I (37, 0, 0, 0))) (I (39, 0, 0, 0)))) (35, 0, 0, 0) (rf (24 * (10 * d + e)) ((24 * (10 * d + e)) + i) z0 (I (35, 0, 0, 0)))) (37, 0, 0, 0) (rf (24 * (10 * d + e)) ((24 * (10 * d + e)) + i) z0 (I (37, 0, 0, 0)))) ((I (39, 0, 0, 0)) ((24 * (10 * d + e)) + i)) ((I (37, 0, 0, 0)) ((24 * (10 * d + e)) + i)) _) F_X7_greater q940 q941 rfl (by decide) (by decide) ⟨Nat.le_refl _, Nat.le_refl _⟩ hl.1 (Nat.le_of_ble_eq_true rfl) dX7_forgets_45 rfl) (fun H locs h => ?_)
    refine y_ast X h (fun _ => rfl) (by decide) (hL (39, 0, 0, 0) ⟨by decide, rfl, rfl, rfl⟩) (by omega) dX7_forgets_48 (fun H locs h => ?_)
    refine lv_aload_n hx hb dX7_forgets_49 rfl (lv_at hl 4 rfl) ?_
    refine gf_Model_act X h (hL (30, 0, 0, 0) ⟨by decide, rfl, rfl, rfl⟩) q802 dX7_forgets_50 ?_
    refine lv_iload_n hx hb dX7_forgets_53 rfl (lv_at hl 1 rfl) ?_
    refine lv_iload hx hb dX7_forgets_54 (lv_at hl 0 rfl) ?_
    refine n_iadd hx hb dX7_forgets_56 ?_
    refine lv_iconst (v := nI 0) hx hb dX7_forgets_57 (by decide) ?_
    refine y_ast X h (fun _ => rfl) (by decide) (hL (35, 0, 0, 0) ⟨by decide, rfl, rfl, rfl⟩) (by omega) dX7_forgets_58 (fun H locs h => ?_)
    refine lv_aload_n hx hb dX7_forgets_59 rfl (lv_at hl 4 rfl) ?_
    refine gf_Model_seen X h (hL (30, 0, 0, 0) ⟨by decide, rfl, rfl, rfl⟩) q804 dX7_forgets_60 ?_
    refine lv_iload_n hx hb dX7_forgets_63 rfl (lv_at hl 1 rfl) ?_
    refine lv_iload hx hb dX7_forgets_64 (lv_at hl 0 rfl) ?_
    refine n_iadd hx hb dX7_forgets_66 ?_
    refine lv_iconst (v := nI 0) hx hb dX7_forgets_67 (by decide) ?_
    refine y_ast X h (fun _ => rfl) (by decide) (hL (37, 0, 0, 0) ⟨by decide, rfl, rfl, rfl⟩) (by omega) dX7_forgets_68 (fun H locs h => ?_)
    refine n_iinc (j := i) (n := 1) (lv' := [(4, .int (nI (i + 1))), (3, .int (nI (24 * (10 * d + e)))), (2, .int (nI e)), (1, .int (nI d)), (0, .ref (ad (30, 0, 0, 0)))]) hx hb dX7_forgets_69 hl (k := 0) rfl (by decide) (by decide) rfl (fun ls hl => ?_)
    refine lv_goto (tgt := 12) hx hb dX7_forgets_72 (by decide) ?_
    have hm : (sset (sset (sset (sset (sset (sset I (39, 0, 0, 0) (rf (24 * (10 * d + e)) ((24 * (10 * d + e)) + i) (gM (I (39, 0, 0, 0)) (I (37, 0, 0, 0))) (I (39, 0, 0, 0)))) (35, 0, 0, 0) (rf (24 * (10 * d + e)) ((24 * (10 * d + e)) + i) z0 (I (35, 0, 0, 0)))) (37, 0, 0, 0) (rf (24 * (10 * d + e)) ((24 * (10 * d + e)) + i) z0 (I (37, 0, 0, 0)))) (39, 0, 0, 0) (upd ((sset (sset (sset I (39, 0, 0, 0) (rf (24 * (10 * d + e)) ((24 * (10 * d + e)) + i) (gM (I (39, 0, 0, 0)) (I (37, 0, 0, 0))) (I (39, 0, 0, 0)))) (35, 0, 0, 0) (rf (24 * (10 * d + e)) ((24 * (10 * d + e)) + i) z0 (I (35, 0, 0, 0)))) (37, 0, 0, 0) (rf (24 * (10 * d + e)) ((24 * (10 * d + e)) + i) z0 (I (37, 0, 0, 0)))) (39, 0, 0, 0)) ((24 * (10 * d + e)) + i) (imax ((I (39, 0, 0, 0)) ((24 * (10 * d + e)) + i)) ((I (37, 0, 0, 0)) ((24 * (10 * d + e)) + i))))) (35, 0, 0, 0) (upd ((sset (sset (sset (sset I (39, 0, 0, 0) (rf (24 * (10 * d + e)) ((24 * (10 * d + e)) + i) (gM (I (39, 0, 0, 0)) (I (37, 0, 0, 0))) (I (39, 0, 0, 0)))) (35, 0, 0, 0) (rf (24 * (10 * d + e)) ((24 * (10 * d + e)) + i) z0 (I (35, 0, 0, 0)))) (37, 0, 0, 0) (rf (24 * (10 * d + e)) ((24 * (10 * d + e)) + i) z0 (I (37, 0, 0, 0)))) (39, 0, 0, 0) (upd ((sset (sset (sset I (39, 0, 0, 0) (rf (24 * (10 * d + e)) ((24 * (10 * d + e)) + i) (gM (I (39, 0, 0, 0)) (I (37, 0, 0, 0))) (I (39, 0, 0, 0)))) (35, 0, 0, 0) (rf (24 * (10 * d + e)) ((24 * (10 * d + e)) + i) z0 (I (35, 0, 0, 0)))) (37, 0, 0, 0) (rf (24 * (10 * d + e)) ((24 * (10 * d + e)) + i) z0 (I (37, 0, 0, 0)))) (39, 0, 0, 0)) ((24 * (10 * d + e)) + i) (imax ((I (39, 0, 0, 0)) ((24 * (10 * d + e)) + i)) ((I (37, 0, 0, 0)) ((24 * (10 * d + e)) + i))))) (35, 0, 0, 0)) ((24 * (10 * d + e)) + i) (nI 0))) (37, 0, 0, 0) (upd ((sset (sset (sset (sset (sset I (39, 0, 0, 0) (rf (24 * (10 * d + e)) ((24 * (10 * d + e)) + i) (gM (I (39, 0, 0, 0)) (I (37, 0, 0, 0))) (I (39, 0, 0, 0)))) (35, 0, 0, 0) (rf (24 * (10 * d + e)) ((24 * (10 * d + e)) + i) z0 (I (35, 0, 0, 0)))) (37, 0, 0, 0) (rf (24 * (10 * d + e)) ((24 * (10 * d + e)) + i) z0 (I (37, 0, 0, 0)))) (39, 0, 0, 0) (upd ((sset (sset (sset I (39, 0, 0, 0) (rf (24 * (10 * d + e)) ((24 * (10 * d + e)) + i) (gM (I (39, 0, 0, 0)) (I (37, 0, 0, 0))) (I (39, 0, 0, 0)))) (35, 0, 0, 0) (rf (24 * (10 * d + e)) ((24 * (10 * d + e)) + i) z0 (I (35, 0, 0, 0)))) (37, 0, 0, 0) (rf (24 * (10 * d + e)) ((24 * (10 * d + e)) + i) z0 (I (37, 0, 0, 0)))) (39, 0, 0, 0)) ((24 * (10 * d + e)) + i) (imax ((I (39, 0, 0, 0)) ((24 * (10 * d + e)) + i)) ((I (37, 0, 0, 0)) ((24 * (10 * d + e)) + i))))) (35, 0, 0, 0) (upd ((sset (sset (sset (sset I (39, 0, 0, 0) (rf (24 * (10 * d + e)) ((24 * (10 * d + e)) + i) (gM (I (39, 0, 0, 0)) (I (37, 0, 0, 0))) (I (39, 0, 0, 0)))) (35, 0, 0, 0) (rf (24 * (10 * d + e)) ((24 * (10 * d + e)) + i) z0 (I (35, 0, 0, 0)))) (37, 0, 0, 0) (rf (24 * (10 * d + e)) ((24 * (10 * d + e)) + i) z0 (I (37, 0, 0, 0)))) (39, 0, 0, 0) (upd ((sset (sset (sset I (39, 0, 0, 0) (rf (24 * (10 * d + e)) ((24 * (10 * d + e)) + i) (gM (I (39, 0, 0, 0)) (I (37, 0, 0, 0))) (I (39, 0, 0, 0)))) (35, 0, 0, 0) (rf (24 * (10 * d + e)) ((24 * (10 * d + e)) + i) z0 (I (35, 0, 0, 0)))) (37, 0, 0, 0) (rf (24 * (10 * d + e)) ((24 * (10 * d + e)) + i) z0 (I (37, 0, 0, 0)))) (39, 0, 0, 0)) ((24 * (10 * d + e)) + i) (imax ((I (39, 0, 0, 0)) ((24 * (10 * d + e)) + i)) ((I (37, 0, 0, 0)) ((24 * (10 * d + e)) + i))))) (35, 0, 0, 0)) ((24 * (10 * d + e)) + i) (nI 0))) (37, 0, 0, 0)) ((24 * (10 * d + e)) + i) (nI 0))) = (sset (sset (sset I (39, 0, 0, 0) (rf (24 * (10 * d + e)) ((24 * (10 * d + e)) + (i + 1)) (gM (I (39, 0, 0, 0)) (I (37, 0, 0, 0))) (I (39, 0, 0, 0)))) (35, 0, 0, 0) (rf (24 * (10 * d + e)) ((24 * (10 * d + e)) + (i + 1)) z0 (I (35, 0, 0, 0)))) (37, 0, 0, 0) (rf (24 * (10 * d + e)) ((24 * (10 * d + e)) + (i + 1)) z0 (I (37, 0, 0, 0)))) := by
      funext nn
      by_cases e0 : nn = (39, 0, 0, 0)
      · rw [e0]
        simp only [sset_eq, sset_ne _ _ (nek (by decide) : (39, 0, 0, 0) ≠ (35, 0, 0, 0)), sset_ne _ _ (nek (by decide) : (39, 0, 0, 0) ≠ (37, 0, 0, 0))]
        exact rf_s _ _ _ _ rfl
      · skip
        by_cases e1 : nn = (35, 0, 0, 0)
        · rw [e1]
          simp only [sset_eq, sset_ne _ _ (nek (by decide) : (35, 0, 0, 0) ≠ (39, 0, 0, 0)), sset_ne _ _ (nek (by decide) : (35, 0, 0, 0) ≠ (37, 0, 0, 0))]
          exact rf_s _ _ _ _ rfl
        · skip
          by_cases e2 : nn = (37, 0, 0, 0)
          · rw [e2]
            simp only [sset_eq, sset_ne _ _ (nek (by decide) : (37, 0, 0, 0) ≠ (39, 0, 0, 0)), sset_ne _ _ (nek (by decide) : (37, 0, 0, 0) ≠ (35, 0, 0, 0))]
            exact rf_s _ _ _ _ rfl
          · skip
            simp only [sset_ne _ _ e0, sset_ne _ _ e1, sset_ne _ _ e2]
    exact ih12 (i + 1) (by omega) (by omega) H locs ls (h.eq (congrArg (lay tc ad gm dz) hm)) (lv_sub hl [0, 1, 2, 3, 4] rfl)

set_option maxHeartbeats 4000000 in
set_option maxRecDepth 100000 in
theorem m_X7_isOld {l : Launch} {D : va_G} {tc : TC} {dz : Nat} {ad : KN → Nat} {Ks : List KN} {gm : GM} (I : Mem) (hL : LV gm Ks) (d o e : Nat) (hd : d < 6) (ho : o < 6) (he : e < 10) : MI l yX7_isOld cX7_isOld 6 (Option.some ClassFile.FieldType.boolean) 1 D tc dz ad Ks (lay tc ad gm dz I) [.ref (ad (30, 0, 0, 0)), .int (nI d), .int (nI o), .int (nI e)] (bI (oldR I d o e)) (lay tc ad gm dz I) := by
  intro sz
  refine x_ofW (by decide +kernel) (Nat.le_of_ble_eq_true rfl) (fun pp ee s mm bel meth cd ls X hr hin hz h hl => ?_)
  subst hz
  obtain ⟨hx, hb, hmaxL, hown, hts⟩ := id X.1
  have hl : lv_has ls 6 [(0, .ref (ad (30, 0, 0, 0))), (1, .int (nI d)), (2, .int (nI o)), (3, .int (nI e))] := hl
  refine lv_aload_n hx hb dX7_isOld_0 rfl (lv_at hl 0 rfl) ?_
  refine gf_Model_hasNote X h (hL (30, 0, 0, 0) ⟨by decide, rfl, rfl, rfl⟩) q805 dX7_isOld_1 ?_
  refine lv_iload_n hx hb dX7_isOld_4 rfl (lv_at hl 1 rfl) ?_
  refine lv_iload_n hx hb dX7_isOld_5 rfl (lv_at hl 3 rfl) ?_
  refine x_doneI X h (x_runS X h (m_X7_pair I d e _) F_X7_pair q867 q868 rfl (by decide) (by decide) ⟨Nat.le_refl _, Nat.le_refl _⟩ hl.1 (Nat.le_of_ble_eq_true rfl) dX7_isOld_6 rfl) (fun H locs h => ?_)
  refine y_zald X h (fun _ => rfl) (by decide) (hL (38, 0, 0, 0) ⟨by decide, rfl, rfl, rfl⟩) (by omega) (v := I (38, 0, 0, 0) (10 * d + e)) rfl dX7_isOld_9 ?_
  refine lv_istore (lv' := [(4, .int (I (38, 0, 0, 0) (10 * d + e))), (0, .ref (ad (30, 0, 0, 0))), (1, .int (nI d)), (2, .int (nI o)), (3, .int (nI e))]) hx hb dX7_isOld_10 hl (by decide) rfl (fun ls hl => ?_)
  refine lv_iconst (v := nI 0) hx hb dX7_isOld_12 (by decide) ?_
  refine lv_istore (lv' := [(5, .int (nI 0)), (4, .int (I (38, 0, 0, 0) (10 * d + e))), (0, .ref (ad (30, 0, 0, 0))), (1, .int (nI d)), (2, .int (nI o)), (3, .int (nI e))]) hx hb dX7_isOld_13 hl (by decide) rfl (fun ls hl => ?_)
  refine y_loop (D := D) (A := wA ad Ks s.heap.size) (ad := ad) (Ks := Ks) (nL := 6) (fun i : Nat => lay tc ad gm dz I) (fun i => [(5, .int (nI i)), (4, .int (oldV I d o e i)), (3, .int (nI e)), (2, .int (nI o)), (1, .int (nI d)), (0, .ref (ad (30, 0, 0, 0)))]) (fun _ => []) (fun i : Nat => i ≤ 24) (fun i => 24 - i) (fun i hi15 ih15 H locs ls h hl => ?_) 0 (Nat.zero_le _) (h.eq (congrArg (lay tc ad gm dz) rfl)) (lv_sub hl [0, 1, 5, 4, 3, 2] rfl) rfl
  have h : Sx D (wA ad Ks s.heap.size) ad Ks (lay tc ad gm dz I) s H locs := h
  have hl : lv_has ls 6 [(5, .int (nI i)), (4, .int (oldV I d o e i)), (3, .int (nI e)), (2, .int (nI o)), (1, .int (nI d)), (0, .ref (ad (30, 0, 0, 0)))] := hl
  refine lv_iload hx hb dX7_isOld_15 (lv_at hl 0 rfl) ?_
  refine lv_bipush (v := nI 24) hx hb dX7_isOld_17 (by decide) ?_
  refine n_icmp_ge (tgt := 75) hx hb (by omega) (by omega) dX7_isOld_19 (by decide) (fun c_19 => ?_) (fun c_19 => ?_)
  · skip
    obtain rfl : i = 24 := by omega
    have hcn : bI (oldR I d o e) = oldV I d o e 24 := by rfl
    have hl : lv_has ls 6 [(5, .int (nI 24)), (4, .int (bI (oldR I d o e))), (3, .int (nI e)), (2, .int (nI o)), (1, .int (nI d)), (0, .ref (ad (30, 0, 0, 0)))] := by rw [hcn]; exact hl
    refine lv_iload hx hb dX7_isOld_75 (lv_at hl 1 rfl) ?_
    exact x_iret X h hr (bI_nar _) rfl (fun _ _ => rfl) dX7_isOld_77
  · skip
    refine lv_iload hx hb dX7_isOld_22 (lv_at hl 1 rfl) ?_
    refine lv_if_eq (tgt := 66) hx hb dX7_isOld_24 (by decide) (fun c_24 => ?_) (fun c_24 => ?_)
    · skip
      refine lv_iconst (v := nI 0) hx hb dX7_isOld_66 (by decide) ?_
      refine lv_istore (lv' := [(4, .int (nI 0)), (5, .int (nI i)), (3, .int (nI e)), (2, .int (nI o)), (1, .int (nI d)), (0, .ref (ad (30, 0, 0, 0)))]) hx hb dX7_isOld_67 hl (by decide) rfl (fun ls hl => ?_)
      have hcn : oldV I d o e (i + 1) = nI 0 := by rw [oldV_s]; simp only [oldP, c_19, eq_true c_24, decide_true, decide_false, Bool.not_true, Bool.not_false, Bool.and_true, Bool.and_false, Bool.true_and, Bool.false_and, Bool.or_true, Bool.or_false, Bool.true_or, Bool.false_or, Bool.and_self, Bool.or_self, ↓reduceIte, Bool.false_eq_true, not_false_eq_true, not_true_eq_false] <;> rfl
      have hl : lv_has ls 6 [(4, .int (oldV I d o e (i + 1))), (5, .int (nI i)), (3, .int (nI e)), (2, .int (nI o)), (1, .int (nI d)), (0, .ref (ad (30, 0, 0, 0)))] := by rw [hcn]; exact hl
      refine n_iinc (j := i) (n := 1) (lv' := [(5, .int (nI (i + 1))), (4, .int (oldV I d o e (i + 1))), (3, .int (nI e)), (2, .int (nI o)), (1, .int (nI d)), (0, .ref (ad (30, 0, 0, 0)))]) hx hb dX7_isOld_69 hl (k := 1) rfl (by decide) (by decide) rfl (fun ls hl => ?_)
      refine lv_goto (tgt := 15) hx hb dX7_isOld_72 (by decide) ?_
      exact ih15 (i + 1) (by omega) (by omega) H locs ls (h.eq (congrArg (lay tc ad gm dz) rfl)) (lv_sub hl [0, 1, 2, 3, 4, 5] rfl)
    · skip
      refine lv_aload_n hx hb dX7_isOld_27 rfl (lv_at hl 5 rfl) ?_
      refine gf_Model_act X h (hL (30, 0, 0, 0) ⟨by decide, rfl, rfl, rfl⟩) q802 dX7_isOld_28 ?_
      refine lv_bipush (v := nI 24) hx hb dX7_isOld_31 (by decide) ?_
      refine lv_iload_n hx hb dX7_isOld_33 rfl (lv_at hl 3 rfl) ?_
      refine lv_iload_n hx hb dX7_isOld_34 rfl (lv_at hl 2 rfl) ?_
      refine x_doneI X h (x_runS X h (m_X7_pair I o e _) F_X7_pair q867 q868 rfl (by decide) (by decide) ⟨Nat.le_refl _, Nat.le_refl _⟩ hl.1 (Nat.le_of_ble_eq_true rfl) dX7_isOld_35 rfl) (fun H locs h => ?_)
      refine n_imul hx hb dX7_isOld_38 ?_
      refine lv_iload hx hb dX7_isOld_39 (lv_at hl 0 rfl) ?_
      refine n_iadd hx hb dX7_isOld_41 ?_
      refine y_ald X h (fun _ => rfl) (by decide) (hL (35, 0, 0, 0) ⟨by decide, rfl, rfl, rfl⟩) (by omega) (v := I (35, 0, 0, 0) ((24 * (10 * o + e)) + i)) rfl dX7_isOld_42 ?_
      refine lv_aload_n hx hb dX7_isOld_43 rfl (lv_at hl 5 rfl) ?_
      refine gf_Model_note X h (hL (30, 0, 0, 0) ⟨by decide, rfl, rfl, rfl⟩) q806 dX7_isOld_44 ?_
      refine lv_bipush (v := nI 24) hx hb dX7_isOld_47 (by decide) ?_
      refine lv_iload_n hx hb dX7_isOld_49 rfl (lv_at hl 4 rfl) ?_
      refine lv_iload_n hx hb dX7_isOld_50 rfl (lv_at hl 2 rfl) ?_
      refine x_doneI X h (x_runS X h (m_X7_pair I d e _) F_X7_pair q867 q868 rfl (by decide) (by decide) ⟨Nat.le_refl _, Nat.le_refl _⟩ hl.1 (Nat.le_of_ble_eq_true rfl) dX7_isOld_51 rfl) (fun H locs h => ?_)
      refine n_imul hx hb dX7_isOld_54 ?_
      refine lv_iload hx hb dX7_isOld_55 (lv_at hl 0 rfl) ?_
      refine n_iadd hx hb dX7_isOld_57 ?_
      refine y_ald X h (fun _ => rfl) (by decide) (hL (39, 0, 0, 0) ⟨by decide, rfl, rfl, rfl⟩) (by omega) (v := I (39, 0, 0, 0) ((24 * (10 * d + e)) + i)) rfl dX7_isOld_58 ?_
      refine lv_icmp_gt (tgt := 66) hx hb dX7_isOld_59 (by decide) (fun c_59 => ?_) (fun c_59 => ?_)
      · skip
        refine lv_iconst (v := nI 0) hx hb dX7_isOld_66 (by decide) ?_
        refine lv_istore (lv' := [(4, .int (nI 0)), (5, .int (nI i)), (3, .int (nI e)), (2, .int (nI o)), (1, .int (nI d)), (0, .ref (ad (30, 0, 0, 0)))]) hx hb dX7_isOld_67 hl (by decide) rfl (fun ls hl => ?_)
        have hcn : oldV I d o e (i + 1) = nI 0 := by rw [oldV_s]; simp only [oldP, c_19, c_24, c_59, decide_true, decide_false, Bool.not_true, Bool.not_false, Bool.and_true, Bool.and_false, Bool.true_and, Bool.false_and, Bool.or_true, Bool.or_false, Bool.true_or, Bool.false_or, Bool.and_self, Bool.or_self, ↓reduceIte, Bool.false_eq_true, not_false_eq_true, not_true_eq_false] <;> rfl
        have hl : lv_has ls 6 [(4, .int (oldV I d o e (i + 1))), (5, .int (nI i)), (3, .int (nI e)), (2, .int (nI o)), (1, .int (nI d)), (0, .ref (ad (30, 0, 0, 0)))] := by rw [hcn]; exact hl
        refine n_iinc (j := i) (n := 1) (lv' := [(5, .int (nI (i + 1))), (4, .int (oldV I d o e (i + 1))), (3, .int (nI e)), (2, .int (nI o)), (1, .int (nI d)), (0, .ref (ad (30, 0, 0, 0)))]) hx hb dX7_isOld_69 hl (k := 1) rfl (by decide) (by decide) rfl (fun ls hl => ?_)
        refine lv_goto (tgt := 15) hx hb dX7_isOld_72 (by decide) ?_
        exact ih15 (i + 1) (by omega) (by omega) H locs ls (h.eq (congrArg (lay tc ad gm dz) rfl)) (lv_sub hl [0, 1, 2, 3, 4, 5] rfl)
      · skip
        refine lv_iconst (v := nI 1) hx hb dX7_isOld_62 (by decide) ?_
        refine lv_goto (tgt := 67) hx hb dX7_isOld_63 (by decide) ?_
        refine lv_istore (lv' := [(4, .int (nI 1)), (5, .int (nI i)), (3, .int (nI e)), (2, .int (nI o)), (1, .int (nI d)), (0, .ref (ad (30, 0, 0, 0)))]) hx hb dX7_isOld_67 hl (by decide) rfl (fun ls hl => ?_)
        have hcn : oldV I d o e (i + 1) = nI 1 := by rw [oldV_s]; simp only [oldP, c_19, c_24, c_59, decide_true, decide_false, Bool.not_true, Bool.not_false, Bool.and_true, Bool.and_false, Bool.true_and, Bool.false_and, Bool.or_true, Bool.or_false, Bool.true_or, Bool.false_or, Bool.and_self, Bool.or_self, ↓reduceIte, Bool.false_eq_true, not_false_eq_true, not_true_eq_false] <;> rfl
        have hl : lv_has ls 6 [(4, .int (oldV I d o e (i + 1))), (5, .int (nI i)), (3, .int (nI e)), (2, .int (nI o)), (1, .int (nI d)), (0, .ref (ad (30, 0, 0, 0)))] := by rw [hcn]; exact hl
        refine n_iinc (j := i) (n := 1) (lv' := [(5, .int (nI (i + 1))), (4, .int (oldV I d o e (i + 1))), (3, .int (nI e)), (2, .int (nI o)), (1, .int (nI d)), (0, .ref (ad (30, 0, 0, 0)))]) hx hb dX7_isOld_69 hl (k := 1) rfl (by decide) (by decide) rfl (fun ls hl => ?_)
        refine lv_goto (tgt := 15) hx hb dX7_isOld_72 (by decide) ?_
        exact ih15 (i + 1) (by omega) (by omega) H locs ls (h.eq (congrArg (lay tc ad gm dz) rfl)) (lv_sub hl [0, 1, 2, 3, 4, 5] rfl)

set_option maxHeartbeats 4000000 in
set_option maxRecDepth 100000 in
theorem m_X7_areShared {l : Launch} {D : va_G} {tc : TC} {dz : Nat} {ad : KN → Nat} {Ks : List KN} {gm : GM} (I : Mem) (hL : LV gm Ks) (d o e : Nat) (hd : d < 6) (ho : o < 6) (he : e < 10) : MI l yX7_areShared cX7_areShared 6 (Option.some ClassFile.FieldType.boolean) 1 D tc dz ad Ks (lay tc ad gm dz I) [.ref (ad (30, 0, 0, 0)), .int (nI d), .int (nI o), .int (nI e)] (bI (shB I d o e)) (lay tc ad gm dz I) := by
  intro sz
  refine x_ofW (by decide +kernel) (Nat.le_of_ble_eq_true rfl) (fun pp ee s mm bel meth cd ls X hr hin hz h hl => ?_)
  subst hz
  obtain ⟨hx, hb, hmaxL, hown, hts⟩ := id X.1
  have hl : lv_has ls 6 [(0, .ref (ad (30, 0, 0, 0))), (1, .int (nI d)), (2, .int (nI o)), (3, .int (nI e))] := hl
  refine lv_iconst (v := nI 0) hx hb dX7_areShared_0 (by decide) ?_
  refine lv_istore (lv' := [(4, .int (nI 0)), (0, .ref (ad (30, 0, 0, 0))), (1, .int (nI d)), (2, .int (nI o)), (3, .int (nI e))]) hx hb dX7_areShared_1 hl (by decide) rfl (fun ls hl => ?_)
  refine lv_iconst (v := nI 0) hx hb dX7_areShared_3 (by decide) ?_
  refine lv_istore (lv' := [(5, .int (nI 0)), (4, .int (nI 0)), (0, .ref (ad (30, 0, 0, 0))), (1, .int (nI d)), (2, .int (nI o)), (3, .int (nI e))]) hx hb dX7_areShared_4 hl (by decide) rfl (fun ls hl => ?_)
  refine y_loop (D := D) (A := wA ad Ks s.heap.size) (ad := ad) (Ks := Ks) (nL := 6) (fun i : Nat => lay tc ad gm dz I) (fun i => [(5, .int (nI i)), (4, .int (bI (anyB (shP I d o e) i))), (3, .int (nI e)), (2, .int (nI o)), (1, .int (nI d)), (0, .ref (ad (30, 0, 0, 0)))]) (fun _ => []) (fun i : Nat => i ≤ 4) (fun i => 4 - i) (fun i hi6 ih6 H locs ls h hl => ?_) 0 (Nat.zero_le _) (h.eq (congrArg (lay tc ad gm dz) rfl)) (lv_sub hl [0, 1, 5, 4, 3, 2] rfl) rfl
  have h : Sx D (wA ad Ks s.heap.size) ad Ks (lay tc ad gm dz I) s H locs := h
  have hl : lv_has ls 6 [(5, .int (nI i)), (4, .int (bI (anyB (shP I d o e) i))), (3, .int (nI e)), (2, .int (nI o)), (1, .int (nI d)), (0, .ref (ad (30, 0, 0, 0)))] := hl
  refine lv_iload hx hb dX7_areShared_6 (lv_at hl 0 rfl) ?_
  refine lv_iconst (v := nI 4) hx hb dX7_areShared_8 (by decide) ?_
  refine n_icmp_ge (tgt := 52) hx hb (by omega) (by omega) dX7_areShared_9 (by decide) (fun c_9 => ?_) (fun c_9 => ?_)
  · skip
    obtain rfl : i = 4 := by omega
    refine lv_iload hx hb dX7_areShared_52 (lv_at hl 1 rfl) ?_
    exact x_iret X h hr (bI_nar _) rfl (fun _ _ => rfl) dX7_areShared_54
  · skip
    refine lv_iload hx hb dX7_areShared_12 (lv_at hl 1 rfl) ?_
    refine b_if_ne (tgt := 39) hx hb dX7_areShared_14 (by decide) (fun c_14 => ?_) (fun c_14 => ?_)
    · skip
      refine lv_iconst (v := nI 1) hx hb dX7_areShared_39 (by decide) ?_
      refine lv_goto (tgt := 44) hx hb dX7_areShared_40 (by decide) ?_
      refine lv_istore (lv' := [(4, .int (nI 1)), (5, .int (nI i)), (3, .int (nI e)), (2, .int (nI o)), (1, .int (nI d)), (0, .ref (ad (30, 0, 0, 0)))]) hx hb dX7_areShared_44 hl (by decide) rfl (fun ls hl => ?_)
      have hcn : bI (anyB (shP I d o e) (i + 1)) = nI 1 := by simp only [anyB, shP, c_9, c_14, decide_true, decide_false, Bool.not_true, Bool.not_false, Bool.and_true, Bool.and_false, Bool.true_and, Bool.false_and, Bool.or_true, Bool.or_false, Bool.true_or, Bool.false_or, Bool.and_self, Bool.or_self, ↓reduceIte, Bool.false_eq_true, not_false_eq_true, not_true_eq_false] <;> rfl
      have hl : lv_has ls 6 [(4, .int (bI (anyB (shP I d o e) (i + 1)))), (5, .int (nI i)), (3, .int (nI e)), (2, .int (nI o)), (1, .int (nI d)), (0, .ref (ad (30, 0, 0, 0)))] := by rw [hcn]; exact hl
      refine n_iinc (j := i) (n := 1) (lv' := [(5, .int (nI (i + 1))), (4, .int (bI (anyB (shP I d o e) (i + 1)))), (3, .int (nI e)), (2, .int (nI o)), (1, .int (nI d)), (0, .ref (ad (30, 0, 0, 0)))]) hx hb dX7_areShared_46 hl (k := 1) rfl (by decide) (by decide) rfl (fun ls hl => ?_)
      refine lv_goto (tgt := 6) hx hb dX7_areShared_49 (by decide) ?_
      exact ih6 (i + 1) (by omega) (by omega) H locs ls (h.eq (congrArg (lay tc ad gm dz) rfl)) (lv_sub hl [0, 1, 2, 3, 4, 5] rfl)
    · skip
      refine lv_aload_n hx hb dX7_areShared_17 rfl (lv_at hl 5 rfl) ?_
      refine lv_iload_n hx hb dX7_areShared_18 rfl (lv_at hl 4 rfl) ?_
      refine lv_iload_n hx hb dX7_areShared_19 rfl (lv_at hl 2 rfl) ?_
      refine lv_iload hx hb dX7_areShared_20 (lv_at hl 0 rfl) ?_
      refine x_doneI X h (x_runV X h (k := (30, 0, 0, 0)) (m_X7_may I hL d e (by omega) (by omega) i _) F_X7_may q885 q887 q8 (hL (30, 0, 0, 0) ⟨by decide, rfl, rfl, rfl⟩) rfl rfl rfl (by decide) (by decide) ⟨Nat.le_refl _, Nat.le_refl _⟩ hl.1 (Nat.le_of_ble_eq_true rfl) dX7_areShared_22 rfl) (fun H locs h => ?_)
      refine b_if_eq (tgt := 43) hx hb dX7_areShared_25 (by decide) (fun c_25 => ?_) (fun c_25 => ?_)
      · skip
        refine lv_iconst (v := nI 0) hx hb dX7_areShared_43 (by decide) ?_
        refine lv_istore (lv' := [(4, .int (nI 0)), (5, .int (nI i)), (3, .int (nI e)), (2, .int (nI o)), (1, .int (nI d)), (0, .ref (ad (30, 0, 0, 0)))]) hx hb dX7_areShared_44 hl (by decide) rfl (fun ls hl => ?_)
        have hcn : bI (anyB (shP I d o e) (i + 1)) = nI 0 := by simp only [anyB, shP, c_9, c_14, c_25, decide_true, decide_false, Bool.not_true, Bool.not_false, Bool.and_true, Bool.and_false, Bool.true_and, Bool.false_and, Bool.or_true, Bool.or_false, Bool.true_or, Bool.false_or, Bool.and_self, Bool.or_self, ↓reduceIte, Bool.false_eq_true, not_false_eq_true, not_true_eq_false] <;> rfl
        have hl : lv_has ls 6 [(4, .int (bI (anyB (shP I d o e) (i + 1)))), (5, .int (nI i)), (3, .int (nI e)), (2, .int (nI o)), (1, .int (nI d)), (0, .ref (ad (30, 0, 0, 0)))] := by rw [hcn]; exact hl
        refine n_iinc (j := i) (n := 1) (lv' := [(5, .int (nI (i + 1))), (4, .int (bI (anyB (shP I d o e) (i + 1)))), (3, .int (nI e)), (2, .int (nI o)), (1, .int (nI d)), (0, .ref (ad (30, 0, 0, 0)))]) hx hb dX7_areShared_46 hl (k := 1) rfl (by decide) (by decide) rfl (fun ls hl => ?_)
        refine lv_goto (tgt := 6) hx hb dX7_areShared_49 (by decide) ?_
        exact ih6 (i + 1) (by omega) (by omega) H locs ls (h.eq (congrArg (lay tc ad gm dz) rfl)) (lv_sub hl [0, 1, 2, 3, 4, 5] rfl)
      · skip
        refine lv_aload_n hx hb dX7_areShared_28 rfl (lv_at hl 5 rfl) ?_
        refine lv_iload_n hx hb dX7_areShared_29 rfl (lv_at hl 3 rfl) ?_
        refine lv_iload_n hx hb dX7_areShared_30 rfl (lv_at hl 2 rfl) ?_
        refine lv_iload hx hb dX7_areShared_31 (lv_at hl 0 rfl) ?_
        refine x_doneI X h (x_runV X h (k := (30, 0, 0, 0)) (m_X7_may I hL o e (by omega) (by omega) i _) F_X7_may q885 q887 q8 (hL (30, 0, 0, 0) ⟨by decide, rfl, rfl, rfl⟩) rfl rfl rfl (by decide) (by decide) ⟨Nat.le_refl _, Nat.le_refl _⟩ hl.1 (Nat.le_of_ble_eq_true rfl) dX7_areShared_33 rfl) (fun H locs h => ?_)
        refine b_if_eq (tgt := 43) hx hb dX7_areShared_36 (by decide) (fun c_36 => ?_) (fun c_36 => ?_)
        · skip
          refine lv_iconst (v := nI 0) hx hb dX7_areShared_43 (by decide) ?_
          refine lv_istore (lv' := [(4, .int (nI 0)), (5, .int (nI i)), (3, .int (nI e)), (2, .int (nI o)), (1, .int (nI d)), (0, .ref (ad (30, 0, 0, 0)))]) hx hb dX7_areShared_44 hl (by decide) rfl (fun ls hl => ?_)
          have hcn : bI (anyB (shP I d o e) (i + 1)) = nI 0 := by simp only [anyB, shP, c_9, c_14, c_25, c_36, decide_true, decide_false, Bool.not_true, Bool.not_false, Bool.and_true, Bool.and_false, Bool.true_and, Bool.false_and, Bool.or_true, Bool.or_false, Bool.true_or, Bool.false_or, Bool.and_self, Bool.or_self, ↓reduceIte, Bool.false_eq_true, not_false_eq_true, not_true_eq_false] <;> rfl
          have hl : lv_has ls 6 [(4, .int (bI (anyB (shP I d o e) (i + 1)))), (5, .int (nI i)), (3, .int (nI e)), (2, .int (nI o)), (1, .int (nI d)), (0, .ref (ad (30, 0, 0, 0)))] := by rw [hcn]; exact hl
          refine n_iinc (j := i) (n := 1) (lv' := [(5, .int (nI (i + 1))), (4, .int (bI (anyB (shP I d o e) (i + 1)))), (3, .int (nI e)), (2, .int (nI o)), (1, .int (nI d)), (0, .ref (ad (30, 0, 0, 0)))]) hx hb dX7_areShared_46 hl (k := 1) rfl (by decide) (by decide) rfl (fun ls hl => ?_)
          refine lv_goto (tgt := 6) hx hb dX7_areShared_49 (by decide) ?_
          exact ih6 (i + 1) (by omega) (by omega) H locs ls (h.eq (congrArg (lay tc ad gm dz) rfl)) (lv_sub hl [0, 1, 2, 3, 4, 5] rfl)
        · skip
          refine lv_iconst (v := nI 1) hx hb dX7_areShared_39 (by decide) ?_
          refine lv_goto (tgt := 44) hx hb dX7_areShared_40 (by decide) ?_
          refine lv_istore (lv' := [(4, .int (nI 1)), (5, .int (nI i)), (3, .int (nI e)), (2, .int (nI o)), (1, .int (nI d)), (0, .ref (ad (30, 0, 0, 0)))]) hx hb dX7_areShared_44 hl (by decide) rfl (fun ls hl => ?_)
          have hcn : bI (anyB (shP I d o e) (i + 1)) = nI 1 := by simp only [anyB, shP, c_9, c_14, c_25, c_36, decide_true, decide_false, Bool.not_true, Bool.not_false, Bool.and_true, Bool.and_false, Bool.true_and, Bool.false_and, Bool.or_true, Bool.or_false, Bool.true_or, Bool.false_or, Bool.and_self, Bool.or_self, ↓reduceIte, Bool.false_eq_true, not_false_eq_true, not_true_eq_false] <;> rfl
          have hl : lv_has ls 6 [(4, .int (bI (anyB (shP I d o e) (i + 1)))), (5, .int (nI i)), (3, .int (nI e)), (2, .int (nI o)), (1, .int (nI d)), (0, .ref (ad (30, 0, 0, 0)))] := by rw [hcn]; exact hl
          refine n_iinc (j := i) (n := 1) (lv' := [(5, .int (nI (i + 1))), (4, .int (bI (anyB (shP I d o e) (i + 1)))), (3, .int (nI e)), (2, .int (nI o)), (1, .int (nI d)), (0, .ref (ad (30, 0, 0, 0)))]) hx hb dX7_areShared_46 hl (k := 1) rfl (by decide) (by decide) rfl (fun ls hl => ?_)
          refine lv_goto (tgt := 6) hx hb dX7_areShared_49 (by decide) ?_
          exact ih6 (i + 1) (by omega) (by omega) H locs ls (h.eq (congrArg (lay tc ad gm dz) rfl)) (lv_sub hl [0, 1, 2, 3, 4, 5] rfl)

set_option maxHeartbeats 4000000 in
set_option maxRecDepth 100000 in
theorem m_X7_merges {l : Launch} {D : va_G} {tc : TC} {dz : Nat} {ad : KN → Nat} {Ks : List KN} {gm : GM} (I : Mem) (hL : LV gm Ks) (p q : Nat) (hp : p < 1440) (hq : q < 1440) : MV l yX7_merges cX7_merges 10 1 D tc dz ad Ks (lay tc ad gm dz I) [.ref (ad (30, 0, 0, 0)), .int (nI p), .int (nI q)] (lay tc ad gm dz (mgsM I p q)) := by
  intro sz
  refine x_ofW (by decide +kernel) (Nat.le_of_ble_eq_true rfl) (fun pp ee s mm bel meth cd ls X hr hin hz h hl => ?_)
  subst hz
  obtain ⟨hx, hb, hmaxL, hown, hts⟩ := id X.1
  have hl : lv_has ls 10 [(0, .ref (ad (30, 0, 0, 0))), (1, .int (nI p)), (2, .int (nI q))] := hl
  refine lv_aload_n hx hb dX7_merges_0 rfl (lv_at hl 0 rfl) ?_
  refine gf_Model_act X h (hL (30, 0, 0, 0) ⟨by decide, rfl, rfl, rfl⟩) q802 dX7_merges_1 ?_
  refine lv_iload_n hx hb dX7_merges_4 rfl (lv_at hl 1 rfl) ?_
  refine y_ald X h (fun _ => rfl) (by decide) (hL (35, 0, 0, 0) ⟨by decide, rfl, rfl, rfl⟩) (by omega) (v := I (35, 0, 0, 0) p) rfl dX7_merges_5 ?_
  refine lv_istore_n (lv' := [(3, .int (I (35, 0, 0, 0) p)), (0, .ref (ad (30, 0, 0, 0))), (1, .int (nI p)), (2, .int (nI q))]) hx hb dX7_merges_6 rfl hl (by decide) rfl (fun ls hl => ?_)
  refine lv_aload_n hx hb dX7_merges_7 rfl (lv_at hl 1 rfl) ?_
  refine gf_Model_act X h (hL (30, 0, 0, 0) ⟨by decide, rfl, rfl, rfl⟩) q802 dX7_merges_8 ?_
  refine lv_iload_n hx hb dX7_merges_11 rfl (lv_at hl 3 rfl) ?_
  refine y_ald X h (fun _ => rfl) (by decide) (hL (35, 0, 0, 0) ⟨by decide, rfl, rfl, rfl⟩) (by omega) (v := I (35, 0, 0, 0) q) rfl dX7_merges_12 ?_
  refine lv_istore (lv' := [(4, .int (I (35, 0, 0, 0) q)), (3, .int (I (35, 0, 0, 0) p)), (0, .ref (ad (30, 0, 0, 0))), (1, .int (nI p)), (2, .int (nI q))]) hx hb dX7_merges_13 hl (by decide) rfl (fun ls hl => ?_)
  refine y_join (D := D) (A := wA ad Ks s.heap.size) (ad := ad) (Ks := Ks) (nL := 10) 42 (fun _ : Unit => lay tc ad gm dz I) (fun _ => [(5, .int (bI (mgF ((I (35, 0, 0, 0)) p) ((I (35, 0, 0, 0)) q) ((I (37, 0, 0, 0)) q)))), (4, .int (I (35, 0, 0, 0) q)), (3, .int (I (35, 0, 0, 0) p)), (0, .ref (ad (30, 0, 0, 0))), (1, .int (nI p)), (2, .int (nI q))]) (fun _ => []) (fun _ => True) (fun jn42 => ?_) (fun _ _ H locs ls h hl => ?_)
  · skip
    refine lv_iload_n hx hb dX7_merges_15 rfl (lv_at hl 1 rfl) ?_
    refine lv_if_le (tgt := 39) hx hb dX7_merges_16 (by decide) (fun c_16 => ?_) (fun c_16 => ?_)
    · skip
      refine lv_iconst (v := nI 0) hx hb dX7_merges_39 (by decide) ?_
      refine lv_istore (lv' := [(5, .int (nI 0)), (4, .int (I (35, 0, 0, 0) q)), (3, .int (I (35, 0, 0, 0) p)), (0, .ref (ad (30, 0, 0, 0))), (1, .int (nI p)), (2, .int (nI q))]) hx hb dX7_merges_40 hl (by decide) rfl (fun ls hl => ?_)
      have hcn : bI (mgF ((I (35, 0, 0, 0)) p) ((I (35, 0, 0, 0)) q) ((I (37, 0, 0, 0)) q)) = nI 0 := by simp only [mgF, c_16, decide_true, decide_false, Bool.not_true, Bool.not_false, Bool.and_true, Bool.and_false, Bool.true_and, Bool.false_and, Bool.or_true, Bool.or_false, Bool.true_or, Bool.false_or, Bool.and_self, Bool.or_self, ↓reduceIte, Bool.false_eq_true, not_false_eq_true, not_true_eq_false] <;> rfl
      have hl : lv_has ls 10 [(5, .int (bI (mgF ((I (35, 0, 0, 0)) p) ((I (35, 0, 0, 0)) q) ((I (37, 0, 0, 0)) q)))), (4, .int (I (35, 0, 0, 0) q)), (3, .int (I (35, 0, 0, 0) p)), (0, .ref (ad (30, 0, 0, 0))), (1, .int (nI p)), (2, .int (nI q))] := by rw [hcn]; exact hl
      exact jn42 () trivial _ _ _ (h.eq (congrArg (lay tc ad gm dz) rfl)) (lv_sub hl [0, 1, 2, 3, 4, 5] rfl)
    · skip
      refine lv_iload_n hx hb dX7_merges_19 rfl (lv_at hl 1 rfl) ?_
      refine lv_iload hx hb dX7_merges_20 (lv_at hl 0 rfl) ?_
      refine lv_icmp_eq (tgt := 35) hx hb dX7_merges_22 (by decide) (fun c_22 => ?_) (fun c_22 => ?_)
      · skip
        refine lv_iconst (v := nI 1) hx hb dX7_merges_35 (by decide) ?_
        refine lv_goto (tgt := 40) hx hb dX7_merges_36 (by decide) ?_
        refine lv_istore (lv' := [(5, .int (nI 1)), (4, .int (I (35, 0, 0, 0) q)), (3, .int (I (35, 0, 0, 0) p)), (0, .ref (ad (30, 0, 0, 0))), (1, .int (nI p)), (2, .int (nI q))]) hx hb dX7_merges_40 hl (by decide) rfl (fun ls hl => ?_)
        have hcn : bI (mgF ((I (35, 0, 0, 0)) p) ((I (35, 0, 0, 0)) q) ((I (37, 0, 0, 0)) q)) = nI 1 := by simp only [mgF, c_16, eq_true c_22, decide_true, decide_false, Bool.not_true, Bool.not_false, Bool.and_true, Bool.and_false, Bool.true_and, Bool.false_and, Bool.or_true, Bool.or_false, Bool.true_or, Bool.false_or, Bool.and_self, Bool.or_self, ↓reduceIte, Bool.false_eq_true, not_false_eq_true, not_true_eq_false] <;> rfl
        have hl : lv_has ls 10 [(5, .int (bI (mgF ((I (35, 0, 0, 0)) p) ((I (35, 0, 0, 0)) q) ((I (37, 0, 0, 0)) q)))), (4, .int (I (35, 0, 0, 0) q)), (3, .int (I (35, 0, 0, 0) p)), (0, .ref (ad (30, 0, 0, 0))), (1, .int (nI p)), (2, .int (nI q))] := by rw [hcn]; exact hl
        exact jn42 () trivial _ _ _ (h.eq (congrArg (lay tc ad gm dz) rfl)) (lv_sub hl [0, 1, 2, 3, 4, 5] rfl)
      · skip
        refine lv_iload_n hx hb dX7_merges_25 rfl (lv_at hl 1 rfl) ?_
        refine lv_aload_n hx hb dX7_merges_26 rfl (lv_at hl 2 rfl) ?_
        refine gf_Model_seen X h (hL (30, 0, 0, 0) ⟨by decide, rfl, rfl, rfl⟩) q804 dX7_merges_27 ?_
        refine lv_iload_n hx hb dX7_merges_30 rfl (lv_at hl 4 rfl) ?_
        refine y_ald X h (fun _ => rfl) (by decide) (hL (37, 0, 0, 0) ⟨by decide, rfl, rfl, rfl⟩) (by omega) (v := I (37, 0, 0, 0) q) rfl dX7_merges_31 ?_
        refine lv_icmp_le (tgt := 39) hx hb dX7_merges_32 (by decide) (fun c_32 => ?_) (fun c_32 => ?_)
        · skip
          refine lv_iconst (v := nI 0) hx hb dX7_merges_39 (by decide) ?_
          refine lv_istore (lv' := [(5, .int (nI 0)), (4, .int (I (35, 0, 0, 0) q)), (3, .int (I (35, 0, 0, 0) p)), (0, .ref (ad (30, 0, 0, 0))), (1, .int (nI p)), (2, .int (nI q))]) hx hb dX7_merges_40 hl (by decide) rfl (fun ls hl => ?_)
          have hcn : bI (mgF ((I (35, 0, 0, 0)) p) ((I (35, 0, 0, 0)) q) ((I (37, 0, 0, 0)) q)) = nI 0 := by simp only [mgF, c_16, c_22, c_32, decide_true, decide_false, Bool.not_true, Bool.not_false, Bool.and_true, Bool.and_false, Bool.true_and, Bool.false_and, Bool.or_true, Bool.or_false, Bool.true_or, Bool.false_or, Bool.and_self, Bool.or_self, ↓reduceIte, Bool.false_eq_true, not_false_eq_true, not_true_eq_false] <;> rfl
          have hl : lv_has ls 10 [(5, .int (bI (mgF ((I (35, 0, 0, 0)) p) ((I (35, 0, 0, 0)) q) ((I (37, 0, 0, 0)) q)))), (4, .int (I (35, 0, 0, 0) q)), (3, .int (I (35, 0, 0, 0) p)), (0, .ref (ad (30, 0, 0, 0))), (1, .int (nI p)), (2, .int (nI q))] := by rw [hcn]; exact hl
          exact jn42 () trivial _ _ _ (h.eq (congrArg (lay tc ad gm dz) rfl)) (lv_sub hl [0, 1, 2, 3, 4, 5] rfl)
        · skip
          refine lv_iconst (v := nI 1) hx hb dX7_merges_35 (by decide) ?_
          refine lv_goto (tgt := 40) hx hb dX7_merges_36 (by decide) ?_
          refine lv_istore (lv' := [(5, .int (nI 1)), (4, .int (I (35, 0, 0, 0) q)), (3, .int (I (35, 0, 0, 0) p)), (0, .ref (ad (30, 0, 0, 0))), (1, .int (nI p)), (2, .int (nI q))]) hx hb dX7_merges_40 hl (by decide) rfl (fun ls hl => ?_)
          have hcn : bI (mgF ((I (35, 0, 0, 0)) p) ((I (35, 0, 0, 0)) q) ((I (37, 0, 0, 0)) q)) = nI 1 := by simp only [mgF, c_16, c_22, c_32, decide_true, decide_false, Bool.not_true, Bool.not_false, Bool.and_true, Bool.and_false, Bool.true_and, Bool.false_and, Bool.or_true, Bool.or_false, Bool.true_or, Bool.false_or, Bool.and_self, Bool.or_self, ↓reduceIte, Bool.false_eq_true, not_false_eq_true, not_true_eq_false] <;> rfl
          have hl : lv_has ls 10 [(5, .int (bI (mgF ((I (35, 0, 0, 0)) p) ((I (35, 0, 0, 0)) q) ((I (37, 0, 0, 0)) q)))), (4, .int (I (35, 0, 0, 0) q)), (3, .int (I (35, 0, 0, 0) p)), (0, .ref (ad (30, 0, 0, 0))), (1, .int (nI p)), (2, .int (nI q))] := by rw [hcn]; exact hl
          exact jn42 () trivial _ _ _ (h.eq (congrArg (lay tc ad gm dz) rfl)) (lv_sub hl [0, 1, 2, 3, 4, 5] rfl)
  · have h : Sx D (wA ad Ks s.heap.size) ad Ks (lay tc ad gm dz I) s H locs := h
    have hl : lv_has ls 10 [(5, .int (bI (mgF ((I (35, 0, 0, 0)) p) ((I (35, 0, 0, 0)) q) ((I (37, 0, 0, 0)) q)))), (4, .int (I (35, 0, 0, 0) q)), (3, .int (I (35, 0, 0, 0) p)), (0, .ref (ad (30, 0, 0, 0))), (1, .int (nI p)), (2, .int (nI q))] := hl
    refine y_join (D := D) (A := wA ad Ks s.heap.size) (ad := ad) (Ks := Ks) (nL := 10) 71 (fun _ : Unit => lay tc ad gm dz I) (fun _ => [(6, .int (bI (mgS ((I (35, 0, 0, 0)) p) ((I (35, 0, 0, 0)) q) ((I (37, 0, 0, 0)) p)))), (5, .int (bI (mgF ((I (35, 0, 0, 0)) p) ((I (35, 0, 0, 0)) q) ((I (37, 0, 0, 0)) q)))), (4, .int (I (35, 0, 0, 0) q)), (3, .int (I (35, 0, 0, 0) p)), (0, .ref (ad (30, 0, 0, 0))), (1, .int (nI p)), (2, .int (nI q))]) (fun _ => []) (fun _ => True) (fun jn71 => ?_) (fun _ _ H locs ls h hl => ?_)
    · skip
      refine lv_iload hx hb dX7_merges_42 (lv_at hl 1 rfl) ?_
      refine lv_if_le (tgt := 68) hx hb dX7_merges_44 (by decide) (fun c_44 => ?_) (fun c_44 => ?_)
      · skip
        refine lv_iconst (v := nI 0) hx hb dX7_merges_68 (by decide) ?_
        refine lv_istore (lv' := [(6, .int (nI 0)), (5, .int (bI (mgF ((I (35, 0, 0, 0)) p) ((I (35, 0, 0, 0)) q) ((I (37, 0, 0, 0)) q)))), (4, .int (I (35, 0, 0, 0) q)), (3, .int (I (35, 0, 0, 0) p)), (0, .ref (ad (30, 0, 0, 0))), (1, .int (nI p)), (2, .int (nI q))]) hx hb dX7_merges_69 hl (by decide) rfl (fun ls hl => ?_)
        have hcn : bI (mgS ((I (35, 0, 0, 0)) p) ((I (35, 0, 0, 0)) q) ((I (37, 0, 0, 0)) p)) = nI 0 := by simp only [mgS, c_44, decide_true, decide_false, Bool.not_true, Bool.not_false, Bool.and_true, Bool.and_false, Bool.true_and, Bool.false_and, Bool.or_true, Bool.or_false, Bool.true_or, Bool.false_or, Bool.and_self, Bool.or_self, ↓reduceIte, Bool.false_eq_true, not_false_eq_true, not_true_eq_false] <;> rfl
        have hl : lv_has ls 10 [(6, .int (bI (mgS ((I (35, 0, 0, 0)) p) ((I (35, 0, 0, 0)) q) ((I (37, 0, 0, 0)) p)))), (5, .int (bI (mgF ((I (35, 0, 0, 0)) p) ((I (35, 0, 0, 0)) q) ((I (37, 0, 0, 0)) q)))), (4, .int (I (35, 0, 0, 0) q)), (3, .int (I (35, 0, 0, 0) p)), (0, .ref (ad (30, 0, 0, 0))), (1, .int (nI p)), (2, .int (nI q))] := by rw [hcn]; exact hl
        exact jn71 () trivial _ _ _ (h.eq (congrArg (lay tc ad gm dz) rfl)) (lv_sub hl [0, 1, 2, 3, 4, 5, 6] rfl)
      · skip
        refine lv_iload_n hx hb dX7_merges_47 rfl (lv_at hl 2 rfl) ?_
        refine lv_iload hx hb dX7_merges_48 (lv_at hl 1 rfl) ?_
        refine lv_icmp_eq (tgt := 64) hx hb dX7_merges_50 (by decide) (fun c_50 => ?_) (fun c_50 => ?_)
        · skip
          refine lv_iconst (v := nI 1) hx hb dX7_merges_64 (by decide) ?_
          refine lv_goto (tgt := 69) hx hb dX7_merges_65 (by decide) ?_
          refine lv_istore (lv' := [(6, .int (nI 1)), (5, .int (bI (mgF ((I (35, 0, 0, 0)) p) ((I (35, 0, 0, 0)) q) ((I (37, 0, 0, 0)) q)))), (4, .int (I (35, 0, 0, 0) q)), (3, .int (I (35, 0, 0, 0) p)), (0, .ref (ad (30, 0, 0, 0))), (1, .int (nI p)), (2, .int (nI q))]) hx hb dX7_merges_69 hl (by decide) rfl (fun ls hl => ?_)
          have hcn : bI (mgS ((I (35, 0, 0, 0)) p) ((I (35, 0, 0, 0)) q) ((I (37, 0, 0, 0)) p)) = nI 1 := by simp only [mgS, c_44, eq_true c_50, decide_true, decide_false, Bool.not_true, Bool.not_false, Bool.and_true, Bool.and_false, Bool.true_and, Bool.false_and, Bool.or_true, Bool.or_false, Bool.true_or, Bool.false_or, Bool.and_self, Bool.or_self, ↓reduceIte, Bool.false_eq_true, not_false_eq_true, not_true_eq_false] <;> rfl
          have hl : lv_has ls 10 [(6, .int (bI (mgS ((I (35, 0, 0, 0)) p) ((I (35, 0, 0, 0)) q) ((I (37, 0, 0, 0)) p)))), (5, .int (bI (mgF ((I (35, 0, 0, 0)) p) ((I (35, 0, 0, 0)) q) ((I (37, 0, 0, 0)) q)))), (4, .int (I (35, 0, 0, 0) q)), (3, .int (I (35, 0, 0, 0) p)), (0, .ref (ad (30, 0, 0, 0))), (1, .int (nI p)), (2, .int (nI q))] := by rw [hcn]; exact hl
          exact jn71 () trivial _ _ _ (h.eq (congrArg (lay tc ad gm dz) rfl)) (lv_sub hl [0, 1, 2, 3, 4, 5, 6] rfl)
        · skip
          refine lv_iload hx hb dX7_merges_53 (lv_at hl 1 rfl) ?_
          refine lv_aload_n hx hb dX7_merges_55 rfl (lv_at hl 3 rfl) ?_
          refine gf_Model_seen X h (hL (30, 0, 0, 0) ⟨by decide, rfl, rfl, rfl⟩) q804 dX7_merges_56 ?_
          refine lv_iload_n hx hb dX7_merges_59 rfl (lv_at hl 4 rfl) ?_
          refine y_ald X h (fun _ => rfl) (by decide) (hL (37, 0, 0, 0) ⟨by decide, rfl, rfl, rfl⟩) (by omega) (v := I (37, 0, 0, 0) p) rfl dX7_merges_60 ?_
          refine lv_icmp_le (tgt := 68) hx hb dX7_merges_61 (by decide) (fun c_61 => ?_) (fun c_61 => ?_)
          · skip
            refine lv_iconst (v := nI 0) hx hb dX7_merges_68 (by decide) ?_
            refine lv_istore (lv' := [(6, .int (nI 0)), (5, .int (bI (mgF ((I (35, 0, 0, 0)) p) ((I (35, 0, 0, 0)) q) ((I (37, 0, 0, 0)) q)))), (4, .int (I (35, 0, 0, 0) q)), (3, .int (I (35, 0, 0, 0) p)), (0, .ref (ad (30, 0, 0, 0))), (1, .int (nI p)), (2, .int (nI q))]) hx hb dX7_merges_69 hl (by decide) rfl (fun ls hl => ?_)
            have hcn : bI (mgS ((I (35, 0, 0, 0)) p) ((I (35, 0, 0, 0)) q) ((I (37, 0, 0, 0)) p)) = nI 0 := by simp only [mgS, c_44, c_50, c_61, decide_true, decide_false, Bool.not_true, Bool.not_false, Bool.and_true, Bool.and_false, Bool.true_and, Bool.false_and, Bool.or_true, Bool.or_false, Bool.true_or, Bool.false_or, Bool.and_self, Bool.or_self, ↓reduceIte, Bool.false_eq_true, not_false_eq_true, not_true_eq_false] <;> rfl
            have hl : lv_has ls 10 [(6, .int (bI (mgS ((I (35, 0, 0, 0)) p) ((I (35, 0, 0, 0)) q) ((I (37, 0, 0, 0)) p)))), (5, .int (bI (mgF ((I (35, 0, 0, 0)) p) ((I (35, 0, 0, 0)) q) ((I (37, 0, 0, 0)) q)))), (4, .int (I (35, 0, 0, 0) q)), (3, .int (I (35, 0, 0, 0) p)), (0, .ref (ad (30, 0, 0, 0))), (1, .int (nI p)), (2, .int (nI q))] := by rw [hcn]; exact hl
            exact jn71 () trivial _ _ _ (h.eq (congrArg (lay tc ad gm dz) rfl)) (lv_sub hl [0, 1, 2, 3, 4, 5, 6] rfl)
          · skip
            refine lv_iconst (v := nI 1) hx hb dX7_merges_64 (by decide) ?_
            refine lv_goto (tgt := 69) hx hb dX7_merges_65 (by decide) ?_
            refine lv_istore (lv' := [(6, .int (nI 1)), (5, .int (bI (mgF ((I (35, 0, 0, 0)) p) ((I (35, 0, 0, 0)) q) ((I (37, 0, 0, 0)) q)))), (4, .int (I (35, 0, 0, 0) q)), (3, .int (I (35, 0, 0, 0) p)), (0, .ref (ad (30, 0, 0, 0))), (1, .int (nI p)), (2, .int (nI q))]) hx hb dX7_merges_69 hl (by decide) rfl (fun ls hl => ?_)
            have hcn : bI (mgS ((I (35, 0, 0, 0)) p) ((I (35, 0, 0, 0)) q) ((I (37, 0, 0, 0)) p)) = nI 1 := by simp only [mgS, c_44, c_50, c_61, decide_true, decide_false, Bool.not_true, Bool.not_false, Bool.and_true, Bool.and_false, Bool.true_and, Bool.false_and, Bool.or_true, Bool.or_false, Bool.true_or, Bool.false_or, Bool.and_self, Bool.or_self, ↓reduceIte, Bool.false_eq_true, not_false_eq_true, not_true_eq_false] <;> rfl
            have hl : lv_has ls 10 [(6, .int (bI (mgS ((I (35, 0, 0, 0)) p) ((I (35, 0, 0, 0)) q) ((I (37, 0, 0, 0)) p)))), (5, .int (bI (mgF ((I (35, 0, 0, 0)) p) ((I (35, 0, 0, 0)) q) ((I (37, 0, 0, 0)) q)))), (4, .int (I (35, 0, 0, 0) q)), (3, .int (I (35, 0, 0, 0) p)), (0, .ref (ad (30, 0, 0, 0))), (1, .int (nI p)), (2, .int (nI q))] := by rw [hcn]; exact hl
            exact jn71 () trivial _ _ _ (h.eq (congrArg (lay tc ad gm dz) rfl)) (lv_sub hl [0, 1, 2, 3, 4, 5, 6] rfl)
    · have h : Sx D (wA ad Ks s.heap.size) ad Ks (lay tc ad gm dz I) s H locs := h
      have hl : lv_has ls 10 [(6, .int (bI (mgS ((I (35, 0, 0, 0)) p) ((I (35, 0, 0, 0)) q) ((I (37, 0, 0, 0)) p)))), (5, .int (bI (mgF ((I (35, 0, 0, 0)) p) ((I (35, 0, 0, 0)) q) ((I (37, 0, 0, 0)) q)))), (4, .int (I (35, 0, 0, 0) q)), (3, .int (I (35, 0, 0, 0) p)), (0, .ref (ad (30, 0, 0, 0))), (1, .int (nI p)), (2, .int (nI q))] := hl
      refine y_join (D := D) (A := wA ad Ks s.heap.size) (ad := ad) (Ks := Ks) (nL := 10) 93 (fun _ : Unit => lay tc ad gm dz I) (fun _ => [(7, .int (mgsA I p q)), (6, .int (bI (mgS ((I (35, 0, 0, 0)) p) ((I (35, 0, 0, 0)) q) ((I (37, 0, 0, 0)) p)))), (5, .int (bI (mgF ((I (35, 0, 0, 0)) p) ((I (35, 0, 0, 0)) q) ((I (37, 0, 0, 0)) q)))), (4, .int (I (35, 0, 0, 0) q)), (3, .int (I (35, 0, 0, 0) p)), (0, .ref (ad (30, 0, 0, 0))), (1, .int (nI p)), (2, .int (nI q))]) (fun _ => []) (fun _ => True) (fun jn93 => ?_) (fun _ _ H locs ls h hl => ?_)
      · skip
        refine lv_iload hx hb dX7_merges_71 (lv_at hl 1 rfl) ?_
        refine b_if_eq (tgt := 80) hx hb dX7_merges_73 (by decide) (fun c_73 => ?_) (fun c_73 => ?_)
        · skip
          refine lv_iload hx hb dX7_merges_80 (lv_at hl 0 rfl) ?_
          refine b_if_eq (tgt := 90) hx hb dX7_merges_82 (by decide) (fun c_82 => ?_) (fun c_82 => ?_)
          · skip
            refine lv_iconst (v := nI 0) hx hb dX7_merges_90 (by decide) ?_
            refine lv_istore (lv' := [(7, .int (nI 0)), (6, .int (bI (mgS ((I (35, 0, 0, 0)) p) ((I (35, 0, 0, 0)) q) ((I (37, 0, 0, 0)) p)))), (5, .int (bI (mgF ((I (35, 0, 0, 0)) p) ((I (35, 0, 0, 0)) q) ((I (37, 0, 0, 0)) q)))), (4, .int (I (35, 0, 0, 0) q)), (3, .int (I (35, 0, 0, 0) p)), (0, .ref (ad (30, 0, 0, 0))), (1, .int (nI p)), (2, .int (nI q))]) hx hb dX7_merges_91 hl (by decide) rfl (fun ls hl => ?_)
            have hcn : mgsA I p q = nI 0 := by simp only [mgsA, mgA, c_73, c_82, decide_true, decide_false, Bool.not_true, Bool.not_false, Bool.and_true, Bool.and_false, Bool.true_and, Bool.false_and, Bool.or_true, Bool.or_false, Bool.true_or, Bool.false_or, Bool.and_self, Bool.or_self, ↓reduceIte, Bool.false_eq_true, not_false_eq_true, not_true_eq_false] <;> rfl
            have hl : lv_has ls 10 [(7, .int (mgsA I p q)), (6, .int (bI (mgS ((I (35, 0, 0, 0)) p) ((I (35, 0, 0, 0)) q) ((I (37, 0, 0, 0)) p)))), (5, .int (bI (mgF ((I (35, 0, 0, 0)) p) ((I (35, 0, 0, 0)) q) ((I (37, 0, 0, 0)) q)))), (4, .int (I (35, 0, 0, 0) q)), (3, .int (I (35, 0, 0, 0) p)), (0, .ref (ad (30, 0, 0, 0))), (1, .int (nI p)), (2, .int (nI q))] := by rw [hcn]; exact hl
            exact jn93 () trivial _ _ _ (h.eq (congrArg (lay tc ad gm dz) rfl)) (lv_sub hl [0, 1, 2, 3, 4, 5, 6, 7] rfl)
          · skip
            refine lv_iload hx hb dX7_merges_85 (lv_at hl 2 rfl) ?_
            refine lv_goto (tgt := 91) hx hb dX7_merges_87 (by decide) ?_
            refine lv_istore (lv' := [(7, .int (I (35, 0, 0, 0) q)), (6, .int (bI (mgS ((I (35, 0, 0, 0)) p) ((I (35, 0, 0, 0)) q) ((I (37, 0, 0, 0)) p)))), (5, .int (bI (mgF ((I (35, 0, 0, 0)) p) ((I (35, 0, 0, 0)) q) ((I (37, 0, 0, 0)) q)))), (4, .int (I (35, 0, 0, 0) q)), (3, .int (I (35, 0, 0, 0) p)), (0, .ref (ad (30, 0, 0, 0))), (1, .int (nI p)), (2, .int (nI q))]) hx hb dX7_merges_91 hl (by decide) rfl (fun ls hl => ?_)
            have hcn : mgsA I p q = I (35, 0, 0, 0) q := by simp only [mgsA, mgA, c_73, c_82, decide_true, decide_false, Bool.not_true, Bool.not_false, Bool.and_true, Bool.and_false, Bool.true_and, Bool.false_and, Bool.or_true, Bool.or_false, Bool.true_or, Bool.false_or, Bool.and_self, Bool.or_self, ↓reduceIte, Bool.false_eq_true, not_false_eq_true, not_true_eq_false] <;> rfl
            have hl : lv_has ls 10 [(7, .int (mgsA I p q)), (6, .int (bI (mgS ((I (35, 0, 0, 0)) p) ((I (35, 0, 0, 0)) q) ((I (37, 0, 0, 0)) p)))), (5, .int (bI (mgF ((I (35, 0, 0, 0)) p) ((I (35, 0, 0, 0)) q) ((I (37, 0, 0, 0)) q)))), (4, .int (I (35, 0, 0, 0) q)), (3, .int (I (35, 0, 0, 0) p)), (0, .ref (ad (30, 0, 0, 0))), (1, .int (nI p)), (2, .int (nI q))] := by rw [hcn]; exact hl
            exact jn93 () trivial _ _ _ (h.eq (congrArg (lay tc ad gm dz) rfl)) (lv_sub hl [0, 1, 2, 3, 4, 5, 6, 7] rfl)
        · skip
          refine lv_iload_n hx hb dX7_merges_76 rfl (lv_at hl 3 rfl) ?_
          refine lv_goto (tgt := 91) hx hb dX7_merges_77 (by decide) ?_
          refine lv_istore (lv' := [(7, .int (I (35, 0, 0, 0) p)), (6, .int (bI (mgS ((I (35, 0, 0, 0)) p) ((I (35, 0, 0, 0)) q) ((I (37, 0, 0, 0)) p)))), (5, .int (bI (mgF ((I (35, 0, 0, 0)) p) ((I (35, 0, 0, 0)) q) ((I (37, 0, 0, 0)) q)))), (4, .int (I (35, 0, 0, 0) q)), (3, .int (I (35, 0, 0, 0) p)), (0, .ref (ad (30, 0, 0, 0))), (1, .int (nI p)), (2, .int (nI q))]) hx hb dX7_merges_91 hl (by decide) rfl (fun ls hl => ?_)
          have hcn : mgsA I p q = I (35, 0, 0, 0) p := by simp only [mgsA, mgA, c_73, decide_true, decide_false, Bool.not_true, Bool.not_false, Bool.and_true, Bool.and_false, Bool.true_and, Bool.false_and, Bool.or_true, Bool.or_false, Bool.true_or, Bool.false_or, Bool.and_self, Bool.or_self, ↓reduceIte, Bool.false_eq_true, not_false_eq_true, not_true_eq_false] <;> rfl
          have hl : lv_has ls 10 [(7, .int (mgsA I p q)), (6, .int (bI (mgS ((I (35, 0, 0, 0)) p) ((I (35, 0, 0, 0)) q) ((I (37, 0, 0, 0)) p)))), (5, .int (bI (mgF ((I (35, 0, 0, 0)) p) ((I (35, 0, 0, 0)) q) ((I (37, 0, 0, 0)) q)))), (4, .int (I (35, 0, 0, 0) q)), (3, .int (I (35, 0, 0, 0) p)), (0, .ref (ad (30, 0, 0, 0))), (1, .int (nI p)), (2, .int (nI q))] := by rw [hcn]; exact hl
          exact jn93 () trivial _ _ _ (h.eq (congrArg (lay tc ad gm dz) rfl)) (lv_sub hl [0, 1, 2, 3, 4, 5, 6, 7] rfl)
      · have h : Sx D (wA ad Ks s.heap.size) ad Ks (lay tc ad gm dz I) s H locs := h
        have hl : lv_has ls 10 [(7, .int (mgsA I p q)), (6, .int (bI (mgS ((I (35, 0, 0, 0)) p) ((I (35, 0, 0, 0)) q) ((I (37, 0, 0, 0)) p)))), (5, .int (bI (mgF ((I (35, 0, 0, 0)) p) ((I (35, 0, 0, 0)) q) ((I (37, 0, 0, 0)) q)))), (4, .int (I (35, 0, 0, 0) q)), (3, .int (I (35, 0, 0, 0) p)), (0, .ref (ad (30, 0, 0, 0))), (1, .int (nI p)), (2, .int (nI q))] := hl
        refine y_join (D := D) (A := wA ad Ks s.heap.size) (ad := ad) (Ks := Ks) (nL := 10) 115 (fun _ : Unit => lay tc ad gm dz I) (fun _ => [(8, .int (mgsV I p q)), (7, .int (mgsA I p q)), (6, .int (bI (mgS ((I (35, 0, 0, 0)) p) ((I (35, 0, 0, 0)) q) ((I (37, 0, 0, 0)) p)))), (5, .int (bI (mgF ((I (35, 0, 0, 0)) p) ((I (35, 0, 0, 0)) q) ((I (37, 0, 0, 0)) q)))), (4, .int (I (35, 0, 0, 0) q)), (3, .int (I (35, 0, 0, 0) p)), (0, .ref (ad (30, 0, 0, 0))), (1, .int (nI p)), (2, .int (nI q))]) (fun _ => []) (fun _ => True) (fun jn115 => ?_) (fun _ _ H locs ls h hl => ?_)
        · skip
          refine lv_iload hx hb dX7_merges_93 (lv_at hl 2 rfl) ?_
          refine b_if_eq (tgt := 107) hx hb dX7_merges_95 (by decide) (fun c_95 => ?_) (fun c_95 => ?_)
          · skip
            refine lv_aload_n hx hb dX7_merges_107 rfl (lv_at hl 5 rfl) ?_
            refine gf_Model_value X h (hL (30, 0, 0, 0) ⟨by decide, rfl, rfl, rfl⟩) q803 dX7_merges_108 ?_
            refine lv_iload_n hx hb dX7_merges_111 rfl (lv_at hl 7 rfl) ?_
            refine y_ald X h (fun _ => rfl) (by decide) (hL (36, 0, 0, 0) ⟨by decide, rfl, rfl, rfl⟩) (by omega) (v := I (36, 0, 0, 0) q) rfl dX7_merges_112 ?_
            refine lv_istore (lv' := [(8, .int (I (36, 0, 0, 0) q)), (7, .int (mgsA I p q)), (6, .int (bI (mgS ((I (35, 0, 0, 0)) p) ((I (35, 0, 0, 0)) q) ((I (37, 0, 0, 0)) p)))), (5, .int (bI (mgF ((I (35, 0, 0, 0)) p) ((I (35, 0, 0, 0)) q) ((I (37, 0, 0, 0)) q)))), (4, .int (I (35, 0, 0, 0) q)), (3, .int (I (35, 0, 0, 0) p)), (0, .ref (ad (30, 0, 0, 0))), (1, .int (nI p)), (2, .int (nI q))]) hx hb dX7_merges_113 hl (by decide) rfl (fun ls hl => ?_)
            have hcn : mgsV I p q = I (36, 0, 0, 0) q := by simp only [mgsV, mgV, c_95, decide_true, decide_false, Bool.not_true, Bool.not_false, Bool.and_true, Bool.and_false, Bool.true_and, Bool.false_and, Bool.or_true, Bool.or_false, Bool.true_or, Bool.false_or, Bool.and_self, Bool.or_self, ↓reduceIte, Bool.false_eq_true, not_false_eq_true, not_true_eq_false] <;> rfl
            have hl : lv_has ls 10 [(8, .int (mgsV I p q)), (7, .int (mgsA I p q)), (6, .int (bI (mgS ((I (35, 0, 0, 0)) p) ((I (35, 0, 0, 0)) q) ((I (37, 0, 0, 0)) p)))), (5, .int (bI (mgF ((I (35, 0, 0, 0)) p) ((I (35, 0, 0, 0)) q) ((I (37, 0, 0, 0)) q)))), (4, .int (I (35, 0, 0, 0) q)), (3, .int (I (35, 0, 0, 0) p)), (0, .ref (ad (30, 0, 0, 0))), (1, .int (nI p)), (2, .int (nI q))] := by rw [hcn]; exact hl
            exact jn115 () trivial _ _ _ (h.eq (congrArg (lay tc ad gm dz) rfl)) (lv_sub hl [0, 1, 2, 3, 4, 5, 6, 7, 8] rfl)
          · skip
            refine lv_aload_n hx hb dX7_merges_98 rfl (lv_at hl 5 rfl) ?_
            refine gf_Model_value X h (hL (30, 0, 0, 0) ⟨by decide, rfl, rfl, rfl⟩) q803 dX7_merges_99 ?_
            refine lv_iload_n hx hb dX7_merges_102 rfl (lv_at hl 6 rfl) ?_
            refine y_ald X h (fun _ => rfl) (by decide) (hL (36, 0, 0, 0) ⟨by decide, rfl, rfl, rfl⟩) (by omega) (v := I (36, 0, 0, 0) p) rfl dX7_merges_103 ?_
            refine lv_goto (tgt := 113) hx hb dX7_merges_104 (by decide) ?_
            refine lv_istore (lv' := [(8, .int (I (36, 0, 0, 0) p)), (7, .int (mgsA I p q)), (6, .int (bI (mgS ((I (35, 0, 0, 0)) p) ((I (35, 0, 0, 0)) q) ((I (37, 0, 0, 0)) p)))), (5, .int (bI (mgF ((I (35, 0, 0, 0)) p) ((I (35, 0, 0, 0)) q) ((I (37, 0, 0, 0)) q)))), (4, .int (I (35, 0, 0, 0) q)), (3, .int (I (35, 0, 0, 0) p)), (0, .ref (ad (30, 0, 0, 0))), (1, .int (nI p)), (2, .int (nI q))]) hx hb dX7_merges_113 hl (by decide) rfl (fun ls hl => ?_)
            have hcn : mgsV I p q = I (36, 0, 0, 0) p := by simp only [mgsV, mgV, c_95, decide_true, decide_false, Bool.not_true, Bool.not_false, Bool.and_true, Bool.and_false, Bool.true_and, Bool.false_and, Bool.or_true, Bool.or_false, Bool.true_or, Bool.false_or, Bool.and_self, Bool.or_self, ↓reduceIte, Bool.false_eq_true, not_false_eq_true, not_true_eq_false] <;> rfl
            have hl : lv_has ls 10 [(8, .int (mgsV I p q)), (7, .int (mgsA I p q)), (6, .int (bI (mgS ((I (35, 0, 0, 0)) p) ((I (35, 0, 0, 0)) q) ((I (37, 0, 0, 0)) p)))), (5, .int (bI (mgF ((I (35, 0, 0, 0)) p) ((I (35, 0, 0, 0)) q) ((I (37, 0, 0, 0)) q)))), (4, .int (I (35, 0, 0, 0) q)), (3, .int (I (35, 0, 0, 0) p)), (0, .ref (ad (30, 0, 0, 0))), (1, .int (nI p)), (2, .int (nI q))] := by rw [hcn]; exact hl
            exact jn115 () trivial _ _ _ (h.eq (congrArg (lay tc ad gm dz) rfl)) (lv_sub hl [0, 1, 2, 3, 4, 5, 6, 7, 8] rfl)
        · have h : Sx D (wA ad Ks s.heap.size) ad Ks (lay tc ad gm dz I) s H locs := h
          have hl : lv_has ls 10 [(8, .int (mgsV I p q)), (7, .int (mgsA I p q)), (6, .int (bI (mgS ((I (35, 0, 0, 0)) p) ((I (35, 0, 0, 0)) q) ((I (37, 0, 0, 0)) p)))), (5, .int (bI (mgF ((I (35, 0, 0, 0)) p) ((I (35, 0, 0, 0)) q) ((I (37, 0, 0, 0)) q)))), (4, .int (I (35, 0, 0, 0) q)), (3, .int (I (35, 0, 0, 0) p)), (0, .ref (ad (30, 0, 0, 0))), (1, .int (nI p)), (2, .int (nI q))] := hl
          refine y_join (D := D) (A := wA ad Ks s.heap.size) (ad := ad) (Ks := Ks) (nL := 10) 140 (fun _ : Unit => lay tc ad gm dz (sset I (30, 0, 0, 0) (upd (I (30, 0, 0, 0)) 3 ((I (30, 0, 0, 0)) 3 + bI (mgX (mgsA I p q) ((I (35, 0, 0, 0)) p)))))) (fun _ => [(8, .int (mgsV I p q)), (7, .int (mgsA I p q)), (6, .int (bI (mgS ((I (35, 0, 0, 0)) p) ((I (35, 0, 0, 0)) q) ((I (37, 0, 0, 0)) p)))), (5, .int (bI (mgF ((I (35, 0, 0, 0)) p) ((I (35, 0, 0, 0)) q) ((I (37, 0, 0, 0)) q)))), (4, .int (I (35, 0, 0, 0) q)), (3, .int (I (35, 0, 0, 0) p)), (0, .ref (ad (30, 0, 0, 0))), (1, .int (nI p)), (2, .int (nI q))]) (fun _ => []) (fun _ => True) (fun jn140 => ?_) (fun _ _ H locs ls h hl => ?_)
          · skip
            refine lv_aload_n hx hb dX7_merges_115 rfl (lv_at hl 6 rfl) ?_
            refine lv_dup hx hb dX7_merges_116 rfl ?_
            refine gf_Model_gained X h (hL (30, 0, 0, 0) ⟨by decide, rfl, rfl, rfl⟩) q811 (v := (I (30, 0, 0, 0)) 3) rfl dX7_merges_117 ?_
            refine lv_iload hx hb dX7_merges_120 (lv_at hl 1 rfl) ?_
            refine lv_if_le (tgt := 135) hx hb dX7_merges_122 (by decide) (fun c_122 => ?_) (fun c_122 => ?_)
            · skip
              refine lv_iconst (v := nI 0) hx hb dX7_merges_135 (by decide) ?_
              refine lv_iadd hx hb dX7_merges_136 ?_
              refine pf_Model_gained X h (hL (30, 0, 0, 0) ⟨by decide, rfl, rfl, rfl⟩) q811 dX7_merges_137 (fun H locs h => ?_)
              have hm : (sset I (30, 0, 0, 0) (upd (I (30, 0, 0, 0)) 3 (((I (30, 0, 0, 0)) 3) + (nI 0)))) = (sset I (30, 0, 0, 0) (upd (I (30, 0, 0, 0)) 3 ((I (30, 0, 0, 0)) 3 + bI (mgX (mgsA I p q) ((I (35, 0, 0, 0)) p))))) := by
                simp only [mgX, c_122, decide_true, decide_false, Bool.not_true, Bool.not_false, Bool.and_true, Bool.and_false, Bool.true_and, Bool.false_and, Bool.or_true, Bool.or_false, Bool.true_or, Bool.false_or, Bool.and_self, Bool.or_self, ↓reduceIte, Bool.false_eq_true, not_false_eq_true, not_true_eq_false] <;> rfl
              have h := h.eq (congrArg (lay tc ad gm dz) hm)
              exact jn140 () trivial _ _ _ (h.eq (congrArg (lay tc ad gm dz) rfl)) (lv_sub hl [0, 1, 2, 3, 4, 5, 6, 7, 8] rfl)
            · skip
              refine lv_iload hx hb dX7_merges_125 (lv_at hl 1 rfl) ?_
              refine lv_iload_n hx hb dX7_merges_127 rfl (lv_at hl 5 rfl) ?_
              refine lv_icmp_eq (tgt := 135) hx hb dX7_merges_128 (by decide) (fun c_128 => ?_) (fun c_128 => ?_)
              · skip
                refine lv_iconst (v := nI 0) hx hb dX7_merges_135 (by decide) ?_
                refine lv_iadd hx hb dX7_merges_136 ?_
                refine pf_Model_gained X h (hL (30, 0, 0, 0) ⟨by decide, rfl, rfl, rfl⟩) q811 dX7_merges_137 (fun H locs h => ?_)
                have hm : (sset I (30, 0, 0, 0) (upd (I (30, 0, 0, 0)) 3 (((I (30, 0, 0, 0)) 3) + (nI 0)))) = (sset I (30, 0, 0, 0) (upd (I (30, 0, 0, 0)) 3 ((I (30, 0, 0, 0)) 3 + bI (mgX (mgsA I p q) ((I (35, 0, 0, 0)) p))))) := by
                  simp only [mgX, c_122, eq_true c_128, decide_true, decide_false, Bool.not_true, Bool.not_false, Bool.and_true, Bool.and_false, Bool.true_and, Bool.false_and, Bool.or_true, Bool.or_false, Bool.true_or, Bool.false_or, Bool.and_self, Bool.or_self, ↓reduceIte, Bool.false_eq_true, not_false_eq_true, not_true_eq_false] <;> rfl
                have h := h.eq (congrArg (lay tc ad gm dz) hm)
                exact jn140 () trivial _ _ _ (h.eq (congrArg (lay tc ad gm dz) rfl)) (lv_sub hl [0, 1, 2, 3, 4, 5, 6, 7, 8] rfl)
              · skip
                refine lv_iconst (v := nI 1) hx hb dX7_merges_131 (by decide) ?_
                refine lv_goto (tgt := 136) hx hb dX7_merges_132 (by decide) ?_
                refine lv_iadd hx hb dX7_merges_136 ?_
                refine pf_Model_gained X h (hL (30, 0, 0, 0) ⟨by decide, rfl, rfl, rfl⟩) q811 dX7_merges_137 (fun H locs h => ?_)
                have hm : (sset I (30, 0, 0, 0) (upd (I (30, 0, 0, 0)) 3 (((I (30, 0, 0, 0)) 3) + (nI 1)))) = (sset I (30, 0, 0, 0) (upd (I (30, 0, 0, 0)) 3 ((I (30, 0, 0, 0)) 3 + bI (mgX (mgsA I p q) ((I (35, 0, 0, 0)) p))))) := by
                  simp only [mgX, c_122, c_128, decide_true, decide_false, Bool.not_true, Bool.not_false, Bool.and_true, Bool.and_false, Bool.true_and, Bool.false_and, Bool.or_true, Bool.or_false, Bool.true_or, Bool.false_or, Bool.and_self, Bool.or_self, ↓reduceIte, Bool.false_eq_true, not_false_eq_true, not_true_eq_false] <;> rfl
                have h := h.eq (congrArg (lay tc ad gm dz) hm)
                exact jn140 () trivial _ _ _ (h.eq (congrArg (lay tc ad gm dz) rfl)) (lv_sub hl [0, 1, 2, 3, 4, 5, 6, 7, 8] rfl)
          · have h : Sx D (wA ad Ks s.heap.size) ad Ks (lay tc ad gm dz (sset I (30, 0, 0, 0) (upd (I (30, 0, 0, 0)) 3 ((I (30, 0, 0, 0)) 3 + bI (mgX (mgsA I p q) ((I (35, 0, 0, 0)) p)))))) s H locs := h
            have hl : lv_has ls 10 [(8, .int (mgsV I p q)), (7, .int (mgsA I p q)), (6, .int (bI (mgS ((I (35, 0, 0, 0)) p) ((I (35, 0, 0, 0)) q) ((I (37, 0, 0, 0)) p)))), (5, .int (bI (mgF ((I (35, 0, 0, 0)) p) ((I (35, 0, 0, 0)) q) ((I (37, 0, 0, 0)) q)))), (4, .int (I (35, 0, 0, 0) q)), (3, .int (I (35, 0, 0, 0) p)), (0, .ref (ad (30, 0, 0, 0))), (1, .int (nI p)), (2, .int (nI q))] := hl
            refine y_join (D := D) (A := wA ad Ks s.heap.size) (ad := ad) (Ks := Ks) (nL := 10) 166 (fun _ : Unit => lay tc ad gm dz (sset I (30, 0, 0, 0) (upd (I (30, 0, 0, 0)) 3 (mgsG I p q)))) (fun _ => [(8, .int (mgsV I p q)), (7, .int (mgsA I p q)), (6, .int (bI (mgS ((I (35, 0, 0, 0)) p) ((I (35, 0, 0, 0)) q) ((I (37, 0, 0, 0)) p)))), (5, .int (bI (mgF ((I (35, 0, 0, 0)) p) ((I (35, 0, 0, 0)) q) ((I (37, 0, 0, 0)) q)))), (4, .int (I (35, 0, 0, 0) q)), (3, .int (I (35, 0, 0, 0) p)), (0, .ref (ad (30, 0, 0, 0))), (1, .int (nI p)), (2, .int (nI q))]) (fun _ => []) (fun _ => True) (fun jn166 => ?_) (fun _ _ H locs ls h hl => ?_)
            · skip
              refine lv_aload_n hx hb dX7_merges_140 rfl (lv_at hl 6 rfl) ?_
              refine lv_dup hx hb dX7_merges_141 rfl ?_
              refine gf_Model_gained X h (hL (30, 0, 0, 0) ⟨by decide, rfl, rfl, rfl⟩) q811 (v := ((I (30, 0, 0, 0)) 3 + bI (mgX (mgsA I p q) ((I (35, 0, 0, 0)) p)))) (by rw [sset_eq]; simp only [upd, ↓reduceIte]) dX7_merges_142 ?_
              refine lv_iload hx hb dX7_merges_145 (lv_at hl 1 rfl) ?_
              refine lv_if_le (tgt := 161) hx hb dX7_merges_147 (by decide) (fun c_147 => ?_) (fun c_147 => ?_)
              · skip
                refine lv_iconst (v := nI 0) hx hb dX7_merges_161 (by decide) ?_
                refine lv_iadd hx hb dX7_merges_162 ?_
                refine pf_Model_gained X h (hL (30, 0, 0, 0) ⟨by decide, rfl, rfl, rfl⟩) q811 dX7_merges_163 (fun H locs h => ?_)
                have hm : (sset (sset I (30, 0, 0, 0) (upd (I (30, 0, 0, 0)) 3 ((I (30, 0, 0, 0)) 3 + bI (mgX (mgsA I p q) ((I (35, 0, 0, 0)) p))))) (30, 0, 0, 0) (upd ((sset I (30, 0, 0, 0) (upd (I (30, 0, 0, 0)) 3 ((I (30, 0, 0, 0)) 3 + bI (mgX (mgsA I p q) ((I (35, 0, 0, 0)) p))))) (30, 0, 0, 0)) 3 (((I (30, 0, 0, 0)) 3 + bI (mgX (mgsA I p q) ((I (35, 0, 0, 0)) p))) + (nI 0)))) = (sset I (30, 0, 0, 0) (upd (I (30, 0, 0, 0)) 3 (mgsG I p q))) := by
                  rw [sset_sset, sset_eq]
                  simp only [mgsG, mgX, c_147, decide_true, decide_false, Bool.not_true, Bool.not_false, Bool.and_true, Bool.and_false, Bool.true_and, Bool.false_and, Bool.or_true, Bool.or_false, Bool.true_or, Bool.false_or, Bool.and_self, Bool.or_self, ↓reduceIte, Bool.false_eq_true, not_false_eq_true, not_true_eq_false]
                  congr 1
                  funext x
                  by_cases hx : x = 3
                  · subst hx; simp only [upd, ↓reduceIte] <;> rfl
                  · simp only [upd, if_neg hx]
                have h := h.eq (congrArg (lay tc ad gm dz) hm)
                exact jn166 () trivial _ _ _ (h.eq (congrArg (lay tc ad gm dz) rfl)) (lv_sub hl [0, 1, 2, 3, 4, 5, 6, 7, 8] rfl)
              · skip
                refine lv_iload hx hb dX7_merges_150 (lv_at hl 1 rfl) ?_
                refine lv_iload hx hb dX7_merges_152 (lv_at hl 4 rfl) ?_
                refine lv_icmp_eq (tgt := 161) hx hb dX7_merges_154 (by decide) (fun c_154 => ?_) (fun c_154 => ?_)
                · skip
                  refine lv_iconst (v := nI 0) hx hb dX7_merges_161 (by decide) ?_
                  refine lv_iadd hx hb dX7_merges_162 ?_
                  refine pf_Model_gained X h (hL (30, 0, 0, 0) ⟨by decide, rfl, rfl, rfl⟩) q811 dX7_merges_163 (fun H locs h => ?_)
                  have hm : (sset (sset I (30, 0, 0, 0) (upd (I (30, 0, 0, 0)) 3 ((I (30, 0, 0, 0)) 3 + bI (mgX (mgsA I p q) ((I (35, 0, 0, 0)) p))))) (30, 0, 0, 0) (upd ((sset I (30, 0, 0, 0) (upd (I (30, 0, 0, 0)) 3 ((I (30, 0, 0, 0)) 3 + bI (mgX (mgsA I p q) ((I (35, 0, 0, 0)) p))))) (30, 0, 0, 0)) 3 (((I (30, 0, 0, 0)) 3 + bI (mgX (mgsA I p q) ((I (35, 0, 0, 0)) p))) + (nI 0)))) = (sset I (30, 0, 0, 0) (upd (I (30, 0, 0, 0)) 3 (mgsG I p q))) := by
                    rw [sset_sset, sset_eq]
                    simp only [mgsG, mgX, c_147, eq_true c_154, decide_true, decide_false, Bool.not_true, Bool.not_false, Bool.and_true, Bool.and_false, Bool.true_and, Bool.false_and, Bool.or_true, Bool.or_false, Bool.true_or, Bool.false_or, Bool.and_self, Bool.or_self, ↓reduceIte, Bool.false_eq_true, not_false_eq_true, not_true_eq_false]
                    congr 1
                    funext x
                    by_cases hx : x = 3
                    · subst hx; simp only [upd, ↓reduceIte] <;> rfl
                    · simp only [upd, if_neg hx]
                  have h := h.eq (congrArg (lay tc ad gm dz) hm)
                  exact jn166 () trivial _ _ _ (h.eq (congrArg (lay tc ad gm dz) rfl)) (lv_sub hl [0, 1, 2, 3, 4, 5, 6, 7, 8] rfl)
                · skip
                  refine lv_iconst (v := nI 1) hx hb dX7_merges_157 (by decide) ?_
                  refine lv_goto (tgt := 162) hx hb dX7_merges_158 (by decide) ?_
                  refine lv_iadd hx hb dX7_merges_162 ?_
                  refine pf_Model_gained X h (hL (30, 0, 0, 0) ⟨by decide, rfl, rfl, rfl⟩) q811 dX7_merges_163 (fun H locs h => ?_)
                  have hm : (sset (sset I (30, 0, 0, 0) (upd (I (30, 0, 0, 0)) 3 ((I (30, 0, 0, 0)) 3 + bI (mgX (mgsA I p q) ((I (35, 0, 0, 0)) p))))) (30, 0, 0, 0) (upd ((sset I (30, 0, 0, 0) (upd (I (30, 0, 0, 0)) 3 ((I (30, 0, 0, 0)) 3 + bI (mgX (mgsA I p q) ((I (35, 0, 0, 0)) p))))) (30, 0, 0, 0)) 3 (((I (30, 0, 0, 0)) 3 + bI (mgX (mgsA I p q) ((I (35, 0, 0, 0)) p))) + (nI 1)))) = (sset I (30, 0, 0, 0) (upd (I (30, 0, 0, 0)) 3 (mgsG I p q))) := by
                    rw [sset_sset, sset_eq]
                    simp only [mgsG, mgX, c_147, c_154, decide_true, decide_false, Bool.not_true, Bool.not_false, Bool.and_true, Bool.and_false, Bool.true_and, Bool.false_and, Bool.or_true, Bool.or_false, Bool.true_or, Bool.false_or, Bool.and_self, Bool.or_self, ↓reduceIte, Bool.false_eq_true, not_false_eq_true, not_true_eq_false]
                    congr 1
                    funext x
                    by_cases hx : x = 3
                    · subst hx; simp only [upd, ↓reduceIte] <;> rfl
                    · simp only [upd, if_neg hx]
                  have h := h.eq (congrArg (lay tc ad gm dz) hm)
                  exact jn166 () trivial _ _ _ (h.eq (congrArg (lay tc ad gm dz) rfl)) (lv_sub hl [0, 1, 2, 3, 4, 5, 6, 7, 8] rfl)
            · have h : Sx D (wA ad Ks s.heap.size) ad Ks (lay tc ad gm dz (sset I (30, 0, 0, 0) (upd (I (30, 0, 0, 0)) 3 (mgsG I p q)))) s H locs := h
              have hl : lv_has ls 10 [(8, .int (mgsV I p q)), (7, .int (mgsA I p q)), (6, .int (bI (mgS ((I (35, 0, 0, 0)) p) ((I (35, 0, 0, 0)) q) ((I (37, 0, 0, 0)) p)))), (5, .int (bI (mgF ((I (35, 0, 0, 0)) p) ((I (35, 0, 0, 0)) q) ((I (37, 0, 0, 0)) q)))), (4, .int (I (35, 0, 0, 0) q)), (3, .int (I (35, 0, 0, 0) p)), (0, .ref (ad (30, 0, 0, 0))), (1, .int (nI p)), (2, .int (nI q))] := hl
              refine lv_aload_n hx hb dX7_merges_166 rfl (lv_at hl 6 rfl) ?_
              refine gf_Model_act X h (hL (30, 0, 0, 0) ⟨by decide, rfl, rfl, rfl⟩) q802 dX7_merges_167 ?_
              refine lv_iload_n hx hb dX7_merges_170 rfl (lv_at hl 7 rfl) ?_
              refine lv_iload hx hb dX7_merges_171 (lv_at hl 1 rfl) ?_
              refine y_ast X h (fun _ => rfl) (by decide) (hL (35, 0, 0, 0) ⟨by decide, rfl, rfl, rfl⟩) (by omega) dX7_merges_173 (fun H locs h => ?_)
              refine lv_aload_n hx hb dX7_merges_174 rfl (lv_at hl 6 rfl) ?_
              refine gf_Model_act X h (hL (30, 0, 0, 0) ⟨by decide, rfl, rfl, rfl⟩) q802 dX7_merges_175 ?_
              refine lv_iload_n hx hb dX7_merges_178 rfl (lv_at hl 8 rfl) ?_
              refine lv_iload hx hb dX7_merges_179 (lv_at hl 1 rfl) ?_
              refine y_ast X h (fun _ => rfl) (by decide) (hL (35, 0, 0, 0) ⟨by decide, rfl, rfl, rfl⟩) (by omega) dX7_merges_181 (fun H locs h => ?_)
              refine lv_aload_n hx hb dX7_merges_182 rfl (lv_at hl 6 rfl) ?_
              refine gf_Model_value X h (hL (30, 0, 0, 0) ⟨by decide, rfl, rfl, rfl⟩) q803 dX7_merges_183 ?_
              refine lv_iload_n hx hb dX7_merges_186 rfl (lv_at hl 7 rfl) ?_
              refine lv_iload hx hb dX7_merges_187 (lv_at hl 0 rfl) ?_
              refine y_ast X h (fun _ => rfl) (by decide) (hL (36, 0, 0, 0) ⟨by decide, rfl, rfl, rfl⟩) (by omega) dX7_merges_189 (fun H locs h => ?_)
              refine lv_aload_n hx hb dX7_merges_190 rfl (lv_at hl 6 rfl) ?_
              refine gf_Model_value X h (hL (30, 0, 0, 0) ⟨by decide, rfl, rfl, rfl⟩) q803 dX7_merges_191 ?_
              refine lv_iload_n hx hb dX7_merges_194 rfl (lv_at hl 8 rfl) ?_
              refine lv_iload hx hb dX7_merges_195 (lv_at hl 0 rfl) ?_
              refine y_ast X h (fun _ => rfl) (by decide) (hL (36, 0, 0, 0) ⟨by decide, rfl, rfl, rfl⟩) (by omega) dX7_merges_197 (fun H locs h => ?_)
              refine lv_aload_n hx hb dX7_merges_198 rfl (lv_at hl 6 rfl) ?_
              refine gf_Model_seen X h (hL (30, 0, 0, 0) ⟨by decide, rfl, rfl, rfl⟩) q804 dX7_merges_199 ?_
              refine lv_iload_n hx hb dX7_merges_202 rfl (lv_at hl 7 rfl) ?_
              refine y_ald X h (fun _ => rfl) (by decide) (hL (37, 0, 0, 0) ⟨by decide, rfl, rfl, rfl⟩) (by omega) (v := (sset I (30, 0, 0, 0) (upd (I (30, 0, 0, 0)) 3 (mgsG I p q))) (37, 0, 0, 0) p) (by first | rfl | simp [sset, upd]) dX7_merges_203 ?_
              refine lv_aload_n hx hb dX7_merges_204 rfl (lv_at hl 6 rfl) ?_
              refine gf_Model_seen X h (hL (30, 0, 0, 0) ⟨by decide, rfl, rfl, rfl⟩) q804 dX7_merges_205 ?_
              refine lv_iload_n hx hb dX7_merges_208 rfl (lv_at hl 8 rfl) ?_
              refine y_ald X h (fun _ => rfl) (by decide) (hL (37, 0, 0, 0) ⟨by decide, rfl, rfl, rfl⟩) (by omega) (v := (sset I (30, 0, 0, 0) (upd (I (30, 0, 0, 0)) 3 (mgsG I p q))) (37, 0, 0, 0) q) (by first | rfl | simp [sset, upd]) dX7_merges_209 ?_
              refine x_doneI X h (x_runS X h (m_X7_greater (sset (sset (sset (sset (sset I (30, 0, 0, 0) (upd (I (30, 0, 0, 0)) 3 (mgsG I p q))) (35, 0, 0, 0) (upd ((sset I (30, 0, 0, 0) (upd (I (30, 0, 0, 0)) 3 (mgsG I p q))) (35, 0, 0, 0)) p (mgsA I p q))) (35, 0, 0, 0) (upd ((sset (sset I (30, 0, 0, 0) (upd (I (30, 0, 0, 0)) 3 (mgsG I p q))) (35, 0, 0, 0) (upd ((sset I (30, 0, 0, 0) (upd (I (30, 0, 0, 0)) 3 (mgsG I p q))) (35, 0, 0, 0)) p (mgsA I p q))) (35, 0, 0, 0)) q (mgsA I p q))) (36, 0, 0, 0) (upd ((sset (sset (sset I (30, 0, 0, 0) (upd (I (30, 0, 0, 0)) 3 (mgsG I p q))) (35, 0, 0, 0) (upd ((sset I (30, 0, 0, 0) (upd (I (30, 0, 0, 0)) 3 (mgsG I p q))) (35, 0, 0, 0)) p (mgsA I p q))) (35, 0, 0, 0) (upd ((sset (sset I (30, 0, 0, 0) (upd (I (30, 0, 0, 0)) 3 (mgsG I p q))) (35, 0, 0, 0) (upd ((sset I (30, 0, 0, 0) (upd (I (30, 0, 0, 0)) 3 (mgsG I p q))) (35, 0, 0, 0)) p (mgsA I p q))) (35, 0, 0, 0)) q (mgsA I p q))) (36, 0, 0, 0)) p (mgsV I p q))) (36, 0, 0, 0) (upd ((sset (sset (sset (sset I (30, 0, 0, 0) (upd (I (30, 0, 0, 0)) 3 (mgsG I p q))) (35, 0, 0, 0) (upd ((sset I (30, 0, 0, 0) (upd (I (30, 0, 0, 0)) 3 (mgsG I p q))) (35, 0, 0, 0)) p (mgsA I p q))) (35, 0, 0, 0) (upd ((sset (sset I (30, 0, 0, 0) (upd (I (30, 0, 0, 0)) 3 (mgsG I p q))) (35, 0, 0, 0) (upd ((sset I (30, 0, 0, 0) (upd (I (30, 0, 0, 0)) 3 (mgsG I p q))) (35, 0, 0, 0)) p (mgsA I p q))) (35, 0, 0, 0)) q (mgsA I p q))) (36, 0, 0, 0) (upd ((sset (sset (sset I (30, 0, 0, 0) (upd (I (30, 0, 0, 0)) 3 (mgsG I p q))) (35, 0, 0, 0) (upd ((sset I (30, 0, 0, 0) (upd (I (30, 0, 0, 0)) 3 (mgsG I p q))) (35, 0, 0, 0)) p (mgsA I p q))) (35, 0, 0, 0) (upd ((sset (sset I (30, 0, 0, 0) (upd (I (30, 0, 0, 0)) 3 (mgsG I p q))) (35, 0, 0, 0) (upd ((sset I (30, 0, 0, 0) (upd (I (30, 0, 0, 0)) 3 (mgsG I p q))) (35, 0, 0, 0)) p (mgsA I p q))) (35, 0, 0, 0)) q (mgsA I p q))) (36, 0, 0, 0)) p (mgsV I p q))) (36, 0, 0, 0)) q (mgsV I p q))) ((sset I (30, 0, 0, 0) (upd (I (30, 0, 0, 0)) 3 (mgsG I p q))) (37, 0, 0, 0) p) ((sset I (30, 0, 0, 0) (upd (I (30, 0, 0, 0)) 3 (mgsG I p q))) (37, 0, 0, 0) q) _) F_X7_greater q940 q941 rfl (by decide) (by decide) ⟨Nat.le_refl _, Nat.le_refl _⟩ hl.1 (Nat.le_of_ble_eq_true rfl) dX7_merges_210 rfl) (fun H locs h => ?_)
              refine lv_istore (lv' := [(9, .int (imax ((sset I (30, 0, 0, 0) (upd (I (30, 0, 0, 0)) 3 (mgsG I p q))) (37, 0, 0, 0) p) ((sset I (30, 0, 0, 0) (upd (I (30, 0, 0, 0)) 3 (mgsG I p q))) (37, 0, 0, 0) q))), (8, .int (mgsV I p q)), (7, .int (mgsA I p q)), (6, .int (bI (mgS ((I (35, 0, 0, 0)) p) ((I (35, 0, 0, 0)) q) ((I (37, 0, 0, 0)) p)))), (5, .int (bI (mgF ((I (35, 0, 0, 0)) p) ((I (35, 0, 0, 0)) q) ((I (37, 0, 0, 0)) q)))), (4, .int (I (35, 0, 0, 0) q)), (3, .int (I (35, 0, 0, 0) p)), (0, .ref (ad (30, 0, 0, 0))), (1, .int (nI p)), (2, .int (nI q))]) hx hb dX7_merges_213 hl (by decide) rfl (fun ls hl => ?_)
              refine lv_aload_n hx hb dX7_merges_215 rfl (lv_at hl 7 rfl) ?_
              refine gf_Model_seen X h (hL (30, 0, 0, 0) ⟨by decide, rfl, rfl, rfl⟩) q804 dX7_merges_216 ?_
              refine lv_iload_n hx hb dX7_merges_219 rfl (lv_at hl 8 rfl) ?_
              refine lv_iload hx hb dX7_merges_220 (lv_at hl 0 rfl) ?_
              refine y_ast X h (fun _ => rfl) (by decide) (hL (37, 0, 0, 0) ⟨by decide, rfl, rfl, rfl⟩) (by omega) dX7_merges_222 (fun H locs h => ?_)
              refine lv_aload_n hx hb dX7_merges_223 rfl (lv_at hl 7 rfl) ?_
              refine gf_Model_seen X h (hL (30, 0, 0, 0) ⟨by decide, rfl, rfl, rfl⟩) q804 dX7_merges_224 ?_
              refine lv_iload_n hx hb dX7_merges_227 rfl (lv_at hl 9 rfl) ?_
              refine lv_iload hx hb dX7_merges_228 (lv_at hl 0 rfl) ?_
              refine y_ast X h (fun _ => rfl) (by decide) (hL (37, 0, 0, 0) ⟨by decide, rfl, rfl, rfl⟩) (by omega) dX7_merges_230 (fun H locs h => ?_)
              refine x_vret X h hr (fun k _ => congrFun (congrArg (lay tc ad gm dz) ?_) k) dX7_merges_231
              · simp only [mgsM, sset_sset, sset_eq, sset_ne _ _ (nek (by decide) : ((35, 0, 0, 0) : KN) ≠ (30, 0, 0, 0)), sset_ne _ _ (nek (by decide) : ((36, 0, 0, 0) : KN) ≠ (35, 0, 0, 0)), sset_ne _ _ (nek (by decide) : ((36, 0, 0, 0) : KN) ≠ (30, 0, 0, 0)), sset_ne _ _ (nek (by decide) : ((37, 0, 0, 0) : KN) ≠ (36, 0, 0, 0)), sset_ne _ _ (nek (by decide) : ((37, 0, 0, 0) : KN) ≠ (35, 0, 0, 0)), sset_ne _ _ (nek (by decide) : ((37, 0, 0, 0) : KN) ≠ (30, 0, 0, 0))]
