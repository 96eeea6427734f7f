set_option maxHeartbeats 4000000 in
set_option maxRecDepth 100000 in
theorem m_X7_learns {l : Launch} {D : va_G} {tc : TC} {dz : Nat} {ad : KN → Nat} {Ks : List KN} {gm : GM} (I : Mem) (hL : LV gm Ks) (d i : Nat) (hd : d < 6) (hi : i < 1024) : MV l yX7_learns cX7_learns 3 1 D tc dz ad Ks (lay tc ad gm dz I) [.ref (ad (30, 0, 0, 0)), .int (nI d), .int (nI i)] (lay tc ad gm dz (lrnM I d i)) := by
  intro sz
  refine x_ofW (by decide +kernel) (Nat.le_of_ble_eq_true rfl) (fun pp ee s mm bel meth cd ls X hr hin hz h hl => ?_)
  subst hz
  obtain ⟨hx, hb, hmaxL, hown, hts⟩ := id X.1
  have hl : lv_has ls 3 [(0, .ref (ad (30, 0, 0, 0))), (1, .int (nI d)), (2, .int (nI i))] := hl
  refine lv_aload_n hx hb dX7_learns_0 rfl (lv_at hl 0 rfl) ?_
  refine lv_iload_n hx hb dX7_learns_1 rfl (lv_at hl 1 rfl) ?_
  refine lv_iload_n hx hb dX7_learns_2 rfl (lv_at hl 2 rfl) ?_
  refine x_doneI X h (x_runV X h (k := (30, 0, 0, 0)) (m_X7_isKnownMark I hL d i (by omega) (by omega) _) F_X7_isKnownMark q912 q914 q13 (hL (30, 0, 0, 0) ⟨by decide, rfl, rfl, rfl⟩) rfl rfl rfl (by decide) (by decide) ⟨Nat.le_refl _, Nat.le_refl _⟩ hl.1 (Nat.le_of_ble_eq_true rfl) dX7_learns_3 rfl) (fun H locs h => ?_)
  refine b_if_ne (tgt := 26) hx hb dX7_learns_6 (by decide) (fun c_6 => ?_) (fun c_6 => ?_)
  · skip
    refine x_vret X h hr (fun k _ => congrFun (congrArg (lay tc ad gm dz) ?_) k) dX7_learns_26
    · simp only [lrnM, c_6, decide_true, decide_false, Bool.not_true, Bool.not_false, Bool.and_true, Bool.and_false, Bool.true_and, Bool.false_and, Bool.or_true, Bool.or_false, Bool.true_or, Bool.false_or, Bool.and_self, Bool.or_self, ↓reduceIte, Bool.false_eq_true, not_false_eq_true, not_true_eq_false]
  · skip
    refine lv_aload_n hx hb dX7_learns_9 rfl (lv_at hl 0 rfl) ?_
    refine gf_Model_since X h (hL (30, 0, 0, 0) ⟨by decide, rfl, rfl, rfl⟩) q810 dX7_learns_10 ?_
    refine lv_bipush (v := nI 6) hx hb dX7_learns_13 (by decide) ?_
    refine lv_iload_n hx hb dX7_learns_15 rfl (lv_at hl 2 rfl) ?_
    refine n_imul hx hb dX7_learns_16 ?_
    refine lv_iload_n hx hb dX7_learns_17 rfl (lv_at hl 1 rfl) ?_
    refine n_iadd hx hb dX7_learns_18 ?_
    refine lv_aload_n hx hb dX7_learns_19 rfl (lv_at hl 0 rfl) ?_
    refine gf_Model_month X h (hL (30, 0, 0, 0) ⟨by decide, rfl, rfl, rfl⟩) q796 (v := I (30, 0, 0, 0) 0) rfl dX7_learns_20 ?_
    refine lv_iconst (v := nI 1) hx hb dX7_learns_23 (by decide) ?_
    refine lv_iadd hx hb dX7_learns_24 ?_
    refine y_ast X h (fun _ => rfl) (by decide) (hL (42, 0, 0, 0) ⟨by decide, rfl, rfl, rfl⟩) (by omega) dX7_learns_25 (fun H locs h => ?_)
    refine x_vret X h hr (fun k _ => congrFun (congrArg (lay tc ad gm dz) ?_) k) dX7_learns_26
    · simp only [lrnM, c_6, decide_true, decide_false, Bool.not_true, Bool.not_false, Bool.and_true, Bool.and_false, Bool.true_and, Bool.false_and, Bool.or_true, Bool.or_false, Bool.true_or, Bool.false_or, Bool.and_self, Bool.or_self, ↓reduceIte, Bool.false_eq_true, not_false_eq_true, not_true_eq_false]

set_option maxHeartbeats 4000000 in
set_option maxRecDepth 100000 in
theorem m_X7_joins {l : Launch} {D : va_G} {tc : TC} {dz : Nat} {ad : KN → Nat} {Ks : List KN} {gm : GM} (I : Mem) (hL : LV gm Ks) (d o e : Nat) (hd : d < 6) (ho : o < 6) (he : e < 10) (m : Nat) (hmm : I (30, 0, 0, 0) 2 = nI m) (hm5 : m ≤ 1000) : MV l yX7_joins cX7_joins 6 2 D tc dz ad Ks (lay tc ad gm dz I) [.ref (ad (30, 0, 0, 0)), .int (nI d), .int (nI o), .int (nI e)] (lay tc ad gm dz (joiM I d o e m)) := by
  intro sz
  refine x_ofW (by decide +kernel) (Nat.le_of_ble_eq_true rfl) (fun pp ee s mm bel meth cd ls X hr hin hz h hl => ?_)
  subst hz
  obtain ⟨hx, hb, hmaxL, hown, hts⟩ := id X.1
  have hl : lv_has ls 6 [(0, .ref (ad (30, 0, 0, 0))), (1, .int (nI d)), (2, .int (nI o)), (3, .int (nI e))] := hl
  refine lv_aload_n hx hb dX7_joins_0 rfl (lv_at hl 0 rfl) ?_
  refine gf_Model_knows X h (hL (30, 0, 0, 0) ⟨by decide, rfl, rfl, rfl⟩) q801 dX7_joins_1 ?_
  refine lv_iload_n hx hb dX7_joins_4 rfl (lv_at hl 1 rfl) ?_
  refine lv_iload_n hx hb dX7_joins_5 rfl (lv_at hl 3 rfl) ?_
  refine x_doneI X h (x_runS X h (m_X7_pair I d e _) F_X7_pair q867 q868 rfl (by decide) (by decide) ⟨Nat.le_refl _, Nat.le_refl _⟩ hl.1 (Nat.le_of_ble_eq_true rfl) dX7_joins_6 rfl) (fun H locs h => ?_)
  refine lv_iconst (v := nI 1) hx hb dX7_joins_9 (by decide) ?_
  refine y_zast X h (fun _ => rfl) (by decide) (hL (34, 0, 0, 0) ⟨by decide, rfl, rfl, rfl⟩) (by omega) (by decide) dX7_joins_10 (fun H locs h => ?_)
  refine lv_aload_n hx hb dX7_joins_11 rfl (lv_at hl 0 rfl) ?_
  refine gf_Model_knows X h (hL (30, 0, 0, 0) ⟨by decide, rfl, rfl, rfl⟩) q801 dX7_joins_12 ?_
  refine lv_iload_n hx hb dX7_joins_15 rfl (lv_at hl 2 rfl) ?_
  refine lv_iload_n hx hb dX7_joins_16 rfl (lv_at hl 3 rfl) ?_
  refine x_doneI X h (x_runS X h (m_X7_pair (sset I (34, 0, 0, 0) (upd (I (34, 0, 0, 0)) (10 * d + e) (nI 1))) o e _) F_X7_pair q867 q868 rfl (by decide) (by decide) ⟨Nat.le_refl _, Nat.le_refl _⟩ hl.1 (Nat.le_of_ble_eq_true rfl) dX7_joins_17 rfl) (fun H locs h => ?_)
  refine lv_iconst (v := nI 1) hx hb dX7_joins_20 (by decide) ?_
  refine y_zast X h (fun _ => rfl) (by decide) (hL (34, 0, 0, 0) ⟨by decide, rfl, rfl, rfl⟩) (by omega) (by decide) dX7_joins_21 (fun H locs h => ?_)
  have hm : (sset (sset I (34, 0, 0, 0) (upd (I (34, 0, 0, 0)) (10 * d + e) (nI 1))) (34, 0, 0, 0) (upd ((sset I (34, 0, 0, 0) (upd (I (34, 0, 0, 0)) (10 * d + e) (nI 1))) (34, 0, 0, 0)) (10 * o + e) (nI 1))) = (kboM I d o e) := by
    rw [sset_sset, sset_eq]
    rfl
  have h := h.eq (congrArg (lay tc ad gm dz) hm)
  refine lv_iconst (v := nI 0) hx hb dX7_joins_22 (by decide) ?_
  refine lv_istore (lv' := [(4, .int (nI 0)), (0, .ref (ad (30, 0, 0, 0))), (1, .int (nI d)), (2, .int (nI o)), (3, .int (nI e))]) hx hb dX7_joins_23 hl (by decide) rfl (fun ls hl => ?_)
  refine y_loop (D := D) (A := wA ad Ks s.heap.size) (ad := ad) (Ks := Ks) (nL := 6) (fun i : Nat => lay tc ad gm dz (jnM (kboM I d o e) d o e i)) (fun i => [(4, .int (nI i)), (3, .int (nI e)), (2, .int (nI o)), (1, .int (nI d)), (0, .ref (ad (30, 0, 0, 0)))]) (fun _ => []) (fun i : Nat => i ≤ 4) (fun i => 4 - i) (fun i hi25 ih25 H locs ls h hl => ?_) 0 (Nat.zero_le _) (h.eq (congrArg (lay tc ad gm dz) rfl)) (lv_sub hl [0, 4, 3, 2, 1] rfl) rfl
  have h : Sx D (wA ad Ks s.heap.size) ad Ks (lay tc ad gm dz (jnM (kboM I d o e) d o e i)) s H locs := h
  have hl : lv_has ls 6 [(4, .int (nI i)), (3, .int (nI e)), (2, .int (nI o)), (1, .int (nI d)), (0, .ref (ad (30, 0, 0, 0)))] := hl
  refine lv_iload hx hb dX7_joins_25 (lv_at hl 0 rfl) ?_
  refine lv_iconst (v := nI 4) hx hb dX7_joins_27 (by decide) ?_
  refine n_icmp_ge (tgt := 97) hx hb (by omega) (by omega) dX7_joins_28 (by decide) (fun c_28 => ?_) (fun c_28 => ?_)
  · skip
    obtain rfl : i = 4 := by omega
    refine lv_iconst (v := nI 0) hx hb dX7_joins_97 (by decide) ?_
    refine lv_istore (lv' := [(4, .int (nI 0)), (3, .int (nI e)), (2, .int (nI o)), (1, .int (nI d)), (0, .ref (ad (30, 0, 0, 0)))]) hx hb dX7_joins_98 hl (by decide) rfl (fun ls hl => ?_)
    refine y_loop (D := D) (A := wA ad Ks s.heap.size) (ad := ad) (Ks := Ks) (nL := 6) (fun i : Nat => lay tc ad gm dz (jlM (jnM (kboM I d o e) d o e 4) d o e i)) (fun i => [(4, .int (nI i)), (3, .int (nI e)), (2, .int (nI o)), (1, .int (nI d)), (0, .ref (ad (30, 0, 0, 0)))]) (fun _ => []) (fun i : Nat => i ≤ m) (fun i => m - i) (fun i hi100 ih100 H locs ls h hl => ?_) 0 (Nat.zero_le _) (h.eq (congrArg (lay tc ad gm dz) rfl)) (lv_sub hl [0, 1, 2, 3, 4] rfl) rfl
    have h : Sx D (wA ad Ks s.heap.size) ad Ks (lay tc ad gm dz (jlM (jnM (kboM I d o e) d o e 4) d o e i)) s H locs := h
    have hl : lv_has ls 6 [(4, .int (nI i)), (3, .int (nI e)), (2, .int (nI o)), (1, .int (nI d)), (0, .ref (ad (30, 0, 0, 0)))] := hl
    refine lv_iload hx hb dX7_joins_100 (lv_at hl 0 rfl) ?_
    refine lv_aload_n hx hb dX7_joins_102 rfl (lv_at hl 4 rfl) ?_
    refine gf_Model_marks X h (hL (30, 0, 0, 0) ⟨by decide, rfl, rfl, rfl⟩) q807 (v := nI m) (by rw [jl_see (by decide), jn_30 (by decide), kbo_see (by decide)]; exact hmm) dX7_joins_103 ?_
    refine n_icmp_ge (tgt := 160) hx hb (by omega) (by omega) dX7_joins_106 (by decide) (fun c_106 => ?_) (fun c_106 => ?_)
    · skip
      have him : m = i := by omega
      subst him
      exact x_vret X h hr (fun _ _ => rfl) dX7_joins_160
    · skip
      refine lv_aload_n hx hb dX7_joins_109 rfl (lv_at hl 4 rfl) ?_
      refine gf_Model_markOf X h (hL (30, 0, 0, 0) ⟨by decide, rfl, rfl, rfl⟩) q808 dX7_joins_110 ?_
      refine lv_iload hx hb dX7_joins_113 (lv_at hl 0 rfl) ?_
      refine y_ald X h (fun _ => rfl) (by decide) (hL (40, 0, 0, 0) ⟨by decide, rfl, rfl, rfl⟩) (by omega) (v := ((jnM (kboM I d o e) d o e 4) (40, 0, 0, 0)) i) (congrFun (jl_see (by decide) _) _) dX7_joins_115 ?_
      refine lv_iload_n hx hb dX7_joins_116 rfl (lv_at hl 1 rfl) ?_
      refine lv_icmp_ne (tgt := 154) hx hb dX7_joins_117 (by decide) (fun c_117 => ?_) (fun c_117 => ?_)
      · skip
        refine n_iinc (j := i) (n := 1) (lv' := [(4, .int (nI (i + 1))), (3, .int (nI e)), (2, .int (nI o)), (1, .int (nI d)), (0, .ref (ad (30, 0, 0, 0)))]) hx hb dX7_joins_154 hl (k := 0) rfl (by decide) (by decide) rfl (fun ls hl => ?_)
        refine lv_goto (tgt := 100) hx hb dX7_joins_157 (by decide) ?_
        have hm : (jlM (jnM (kboM I d o e) d o e 4) d o e i) = (jlM (jnM (kboM I d o e) d o e 4) d o e (i + 1)) := by
          rw [jlM, if_neg (by simp only [mo, c_117, decide_true, decide_false, Bool.not_true, Bool.not_false, Bool.and_true, Bool.and_false, Bool.true_and, Bool.false_and, Bool.or_true, Bool.or_false, Bool.true_or, Bool.false_or, Bool.and_self, Bool.or_self, ↓reduceIte, Bool.false_eq_true, not_false_eq_true, not_true_eq_false])]
        exact ih100 (i + 1) (by omega) (by omega) H locs ls (h.eq (congrArg (lay tc ad gm dz) hm)) (lv_sub hl [0, 1, 2, 3, 4] rfl)
      · skip
        refine lv_aload_n hx hb dX7_joins_120 rfl (lv_at hl 4 rfl) ?_
        refine lv_iload_n hx hb dX7_joins_121 rfl (lv_at hl 3 rfl) ?_
        refine lv_iload hx hb dX7_joins_122 (lv_at hl 0 rfl) ?_
        refine x_doneI X h (x_runV X h (k := (30, 0, 0, 0)) (m_X7_isKnownMark (jlM (jnM (kboM I d o e) d o e 4) d o e i) hL d i (by omega) (by omega) _) F_X7_isKnownMark q912 q914 q13 (hL (30, 0, 0, 0) ⟨by decide, rfl, rfl, rfl⟩) rfl rfl rfl (by decide) (by decide) ⟨Nat.le_refl _, Nat.le_refl _⟩ hl.1 (Nat.le_of_ble_eq_true rfl) dX7_joins_124 rfl) (fun H locs h => ?_)
        refine b_if_ne (tgt := 140) hx hb dX7_joins_127 (by decide) (fun c_127 => ?_) (fun c_127 => ?_)
        · skip
          refine lv_aload_n hx hb dX7_joins_140 rfl (lv_at hl 4 rfl) ?_
          refine lv_iload_n hx hb dX7_joins_141 rfl (lv_at hl 3 rfl) ?_
          refine lv_iload hx hb dX7_joins_142 (lv_at hl 0 rfl) ?_
          refine x_doneV X h (x_runV X h (k := (30, 0, 0, 0)) (m_X7_learns (jlM (jnM (kboM I d o e) d o e 4) d o e i) hL d i (by omega) (by omega) _) F_X7_learns q951 q953 q20 (hL (30, 0, 0, 0) ⟨by decide, rfl, rfl, rfl⟩) rfl rfl rfl (by decide) (by decide) ⟨Nat.le_refl _, Nat.le_refl _⟩ hl.1 (Nat.le_of_ble_eq_true rfl) dX7_joins_144 rfl) (fun H locs h => ?_)
          refine lv_aload_n hx hb dX7_joins_147 rfl (lv_at hl 4 rfl) ?_
          refine lv_iload_n hx hb dX7_joins_148 rfl (lv_at hl 2 rfl) ?_
          refine lv_iload hx hb dX7_joins_149 (lv_at hl 0 rfl) ?_
          refine x_doneV X h (x_runV X h (k := (30, 0, 0, 0)) (m_X7_learns (lrnM (jlM (jnM (kboM I d o e) d o e 4) d o e i) d i) hL o i (by omega) (by omega) _) F_X7_learns q951 q953 q20 (hL (30, 0, 0, 0) ⟨by decide, rfl, rfl, rfl⟩) rfl rfl rfl (by decide) (by decide) ⟨Nat.le_refl _, Nat.le_refl _⟩ hl.1 (Nat.le_of_ble_eq_true rfl) dX7_joins_151 rfl) (fun H locs h => ?_)
          refine n_iinc (j := i) (n := 1) (lv' := [(4, .int (nI (i + 1))), (3, .int (nI e)), (2, .int (nI o)), (1, .int (nI d)), (0, .ref (ad (30, 0, 0, 0)))]) hx hb dX7_joins_154 hl (k := 0) rfl (by decide) (by decide) rfl (fun ls hl => ?_)
          refine lv_goto (tgt := 100) hx hb dX7_joins_157 (by decide) ?_
          have hm : (lrnM (lrnM (jlM (jnM (kboM I d o e) d o e 4) d o e i) d i) o i) = (jlM (jnM (kboM I d o e) d o e 4) d o e (i + 1)) := by
            rw [jlM, if_pos (by simp only [mo, eq_true c_117, c_127, decide_true, decide_false, Bool.not_true, Bool.not_false, Bool.and_true, Bool.and_false, Bool.true_and, Bool.false_and, Bool.or_true, Bool.or_false, Bool.true_or, Bool.false_or, Bool.and_self, Bool.or_self, ↓reduceIte, Bool.false_eq_true, not_false_eq_true, not_true_eq_false])]
          exact ih100 (i + 1) (by omega) (by omega) H locs ls (h.eq (congrArg (lay tc ad gm dz) hm)) (lv_sub hl [0, 1, 2, 3, 4] rfl)
        · skip
          refine lv_aload_n hx hb dX7_joins_130 rfl (lv_at hl 4 rfl) ?_
          refine lv_iload_n hx hb dX7_joins_131 rfl (lv_at hl 2 rfl) ?_
          refine lv_iload hx hb dX7_joins_132 (lv_at hl 0 rfl) ?_
          refine x_doneI X h (x_runV X h (k := (30, 0, 0, 0)) (m_X7_isKnownMark (jlM (jnM (kboM I d o e) d o e 4) d o e i) hL o i (by omega) (by omega) _) F_X7_isKnownMark q912 q914 q13 (hL (30, 0, 0, 0) ⟨by decide, rfl, rfl, rfl⟩) rfl rfl rfl (by decide) (by decide) ⟨Nat.le_refl _, Nat.le_refl _⟩ hl.1 (Nat.le_of_ble_eq_true rfl) dX7_joins_134 rfl) (fun H locs h => ?_)
          refine b_if_eq (tgt := 154) hx hb dX7_joins_137 (by decide) (fun c_137 => ?_) (fun c_137 => ?_)
          · skip
            refine n_iinc (j := i) (n := 1) (lv' := [(4, .int (nI (i + 1))), (3, .int (nI e)), (2, .int (nI o)), (1, .int (nI d)), (0, .ref (ad (30, 0, 0, 0)))]) hx hb dX7_joins_154 hl (k := 0) rfl (by decide) (by decide) rfl (fun ls hl => ?_)
            refine lv_goto (tgt := 100) hx hb dX7_joins_157 (by decide) ?_
            have hm : (jlM (jnM (kboM I d o e) d o e 4) d o e i) = (jlM (jnM (kboM I d o e) d o e 4) d o e (i + 1)) := by
              rw [jlM, if_neg (by simp only [mo, eq_true c_117, c_127, c_137, decide_true, decide_false, Bool.not_true, Bool.not_false, Bool.and_true, Bool.and_false, Bool.true_and, Bool.false_and, Bool.or_true, Bool.or_false, Bool.true_or, Bool.false_or, Bool.and_self, Bool.or_self, ↓reduceIte, Bool.false_eq_true, not_false_eq_true, not_true_eq_false])]
            exact ih100 (i + 1) (by omega) (by omega) H locs ls (h.eq (congrArg (lay tc ad gm dz) hm)) (lv_sub hl [0, 1, 2, 3, 4] rfl)
          · skip
            refine lv_aload_n hx hb dX7_joins_140 rfl (lv_at hl 4 rfl) ?_
            refine lv_iload_n hx hb dX7_joins_141 rfl (lv_at hl 3 rfl) ?_
            refine lv_iload hx hb dX7_joins_142 (lv_at hl 0 rfl) ?_
            refine x_doneV X h (x_runV X h (k := (30, 0, 0, 0)) (m_X7_learns (jlM (jnM (kboM I d o e) d o e 4) d o e i) hL d i (by omega) (by omega) _) F_X7_learns q951 q953 q20 (hL (30, 0, 0, 0) ⟨by decide, rfl, rfl, rfl⟩) rfl rfl rfl (by decide) (by decide) ⟨Nat.le_refl _, Nat.le_refl _⟩ hl.1 (Nat.le_of_ble_eq_true rfl) dX7_joins_144 rfl) (fun H locs h => ?_)
            refine lv_aload_n hx hb dX7_joins_147 rfl (lv_at hl 4 rfl) ?_
            refine lv_iload_n hx hb dX7_joins_148 rfl (lv_at hl 2 rfl) ?_
            refine lv_iload hx hb dX7_joins_149 (lv_at hl 0 rfl) ?_
            refine x_doneV X h (x_runV X h (k := (30, 0, 0, 0)) (m_X7_learns (lrnM (jlM (jnM (kboM I d o e) d o e 4) d o e i) d i) hL o i (by omega) (by omega) _) F_X7_learns q951 q953 q20 (hL (30, 0, 0, 0) ⟨by decide, rfl, rfl, rfl⟩) rfl rfl rfl (by decide) (by decide) ⟨Nat.le_refl _, Nat.le_refl _⟩ hl.1 (Nat.le_of_ble_eq_true rfl) dX7_joins_151 rfl) (fun H locs h => ?_)
            refine n_iinc (j := i) (n := 1) (lv' := [(4, .int (nI (i + 1))), (3, .int (nI e)), (2, .int (nI o)), (1, .int (nI d)), (0, .ref (ad (30, 0, 0, 0)))]) hx hb dX7_joins_154 hl (k := 0) rfl (by decide) (by decide) rfl (fun ls hl => ?_)
            refine lv_goto (tgt := 100) hx hb dX7_joins_157 (by decide) ?_
            have hm : (lrnM (lrnM (jlM (jnM (kboM I d o e) d o e 4) d o e i) d i) o i) = (jlM (jnM (kboM I d o e) d o e 4) d o e (i + 1)) := by
              rw [jlM, if_pos (by simp only [mo, eq_true c_117, c_127, c_137, decide_true, decide_false, Bool.not_true, Bool.not_false, Bool.and_true, Bool.and_false, Bool.true_and, Bool.false_and, Bool.or_true, Bool.or_false, Bool.true_or, Bool.false_or, Bool.and_self, Bool.or_self, ↓reduceIte, Bool.false_eq_true, not_false_eq_true, not_true_eq_false])]
            exact ih100 (i + 1) (by omega) (by omega) H locs ls (h.eq (congrArg (lay tc ad gm dz) hm)) (lv_sub hl [0, 1, 2, 3, 4] rfl)
  · skip
    refine lv_iconst (v := nI 0) hx hb dX7_joins_31 (by decide) ?_
    refine lv_istore (lv' := [(5, .int (nI 0)), (4, .int (nI i)), (3, .int (nI e)), (2, .int (nI o)), (1, .int (nI d)), (0, .ref (ad (30, 0, 0, 0)))]) hx hb dX7_joins_32 hl (by decide) rfl (fun ls hl => ?_)
    refine y_loop (D := D) (A := wA ad Ks s.heap.size) (ad := ad) (Ks := Ks) (nL := 6) (fun j : Nat => lay tc ad gm dz (jfM (jnM (kboM I d o e) d o e i) d o e i j)) (fun j => [(5, .int (nI j)), (4, .int (nI i)), (3, .int (nI e)), (2, .int (nI o)), (1, .int (nI d)), (0, .ref (ad (30, 0, 0, 0)))]) (fun _ => []) (fun j : Nat => j ≤ 6 ∧ (j = 0 ∨ shP (kboM I d o e) d o e i = true)) (fun j => 6 - j) (fun j hi34 ih34 H locs ls h hl => ?_) 0 ⟨Nat.zero_le _, Or.inl rfl⟩ (h.eq (congrArg (lay tc ad gm dz) rfl)) (lv_sub hl [0, 1, 2, 3, 4, 5] rfl) rfl
    have h : Sx D (wA ad Ks s.heap.size) ad Ks (lay tc ad gm dz (jfM (jnM (kboM I d o e) d o e i) d o e i j)) s H locs := h
    have hl : lv_has ls 6 [(5, .int (nI j)), (4, .int (nI i)), (3, .int (nI e)), (2, .int (nI o)), (1, .int (nI d)), (0, .ref (ad (30, 0, 0, 0)))] := hl
    obtain ⟨hi34, hj34⟩ := hi34
    refine lv_iload hx hb dX7_joins_34 (lv_at hl 0 rfl) ?_
    refine lv_bipush (v := nI 6) hx hb dX7_joins_36 (by decide) ?_
    refine n_icmp_ge (tgt := 91) hx hb (by omega) (by omega) dX7_joins_38 (by decide) (fun c_38 => ?_) (fun c_38 => ?_)
    · skip
      refine n_iinc (j := i) (n := 1) (lv' := [(4, .int (nI (i + 1))), (5, .int (nI j)), (3, .int (nI e)), (2, .int (nI o)), (1, .int (nI d)), (0, .ref (ad (30, 0, 0, 0)))]) hx hb dX7_joins_91 hl (k := 1) rfl (by decide) (by decide) rfl (fun ls hl => ?_)
      refine lv_goto (tgt := 25) hx hb dX7_joins_94 (by decide) ?_
      have hm : (jfM (jnM (kboM I d o e) d o e i) d o e i j) = (jnM (kboM I d o e) d o e (i + 1)) := by
        obtain rfl : j = 6 := by omega
        rw [jnM, if_pos (hj34.resolve_left (by omega))]
      exact ih25 (i + 1) (by omega) (by omega) H locs ls (h.eq (congrArg (lay tc ad gm dz) hm)) (lv_sub hl [0, 2, 3, 4, 5] rfl)
    · skip
      refine lv_aload_n hx hb dX7_joins_41 rfl (lv_at hl 5 rfl) ?_
      refine lv_iload_n hx hb dX7_joins_42 rfl (lv_at hl 4 rfl) ?_
      refine lv_iload_n hx hb dX7_joins_43 rfl (lv_at hl 2 rfl) ?_
      refine lv_iload hx hb dX7_joins_44 (lv_at hl 1 rfl) ?_
      refine x_doneI X h (x_runV X h (k := (30, 0, 0, 0)) (m_X7_may (jfM (jnM (kboM I d o e) d o e i) d o e i j) hL d e (by omega) (by omega) i _) F_X7_may q885 q887 q8 (hL (30, 0, 0, 0) ⟨by decide, rfl, rfl, rfl⟩) rfl rfl rfl (by decide) (by decide) ⟨Nat.le_refl _, Nat.le_refl _⟩ hl.1 (Nat.le_of_ble_eq_true rfl) dX7_joins_46 rfl) (fun H locs h => ?_)
      refine b_if_eq (tgt := 91) hx hb dX7_joins_49 (by decide) (fun c_49 => ?_) (fun c_49 => ?_)
      · skip
        have hm1 : mayB (kboM I d o e) d e i = false := (may_congr ((jf_see (by decide) (by decide) (by decide) (by decide) _).trans (jn_see (by decide) (by decide) (by decide) (by decide) _)) ((jf_see (by decide) (by decide) (by decide) (by decide) _).trans (jn_see (by decide) (by decide) (by decide) (by decide) _)) _ _ _).symm.trans c_49
        have hs0 : shP (kboM I d o e) d o e i = false := by simp only [shP, hm1, decide_true, decide_false, Bool.not_true, Bool.not_false, Bool.and_true, Bool.and_false, Bool.true_and, Bool.false_and, Bool.or_true, Bool.or_false, Bool.true_or, Bool.false_or, Bool.and_self, Bool.or_self, ↓reduceIte, Bool.false_eq_true, not_false_eq_true, not_true_eq_false]
        refine n_iinc (j := i) (n := 1) (lv' := [(4, .int (nI (i + 1))), (5, .int (nI j)), (3, .int (nI e)), (2, .int (nI o)), (1, .int (nI d)), (0, .ref (ad (30, 0, 0, 0)))]) hx hb dX7_joins_91 hl (k := 1) rfl (by decide) (by decide) rfl (fun ls hl => ?_)
        refine lv_goto (tgt := 25) hx hb dX7_joins_94 (by decide) ?_
        have hm : (jfM (jnM (kboM I d o e) d o e i) d o e i j) = (jnM (kboM I d o e) d o e (i + 1)) := by
          obtain rfl : j = 0 := hj34.resolve_right (by rw [hs0]; decide)
          rw [jnM, if_neg (by rw [hs0]; decide)]
          rfl
        exact ih25 (i + 1) (by omega) (by omega) H locs ls (h.eq (congrArg (lay tc ad gm dz) hm)) (lv_sub hl [0, 2, 3, 4, 5] rfl)
      · skip
        have hm1 : mayB (kboM I d o e) d e i = true := (may_congr ((jf_see (by decide) (by decide) (by decide) (by decide) _).trans (jn_see (by decide) (by decide) (by decide) (by decide) _)) ((jf_see (by decide) (by decide) (by decide) (by decide) _).trans (jn_see (by decide) (by decide) (by decide) (by decide) _)) _ _ _).symm.trans c_49
        refine lv_aload_n hx hb dX7_joins_52 rfl (lv_at hl 5 rfl) ?_
        refine lv_iload_n hx hb dX7_joins_53 rfl (lv_at hl 3 rfl) ?_
        refine lv_iload_n hx hb dX7_joins_54 rfl (lv_at hl 2 rfl) ?_
        refine lv_iload hx hb dX7_joins_55 (lv_at hl 1 rfl) ?_
        refine x_doneI X h (x_runV X h (k := (30, 0, 0, 0)) (m_X7_may (jfM (jnM (kboM I d o e) d o e i) d o e i j) hL o e (by omega) (by omega) i _) F_X7_may q885 q887 q8 (hL (30, 0, 0, 0) ⟨by decide, rfl, rfl, rfl⟩) rfl rfl rfl (by decide) (by decide) ⟨Nat.le_refl _, Nat.le_refl _⟩ hl.1 (Nat.le_of_ble_eq_true rfl) dX7_joins_57 rfl) (fun H locs h => ?_)
        refine b_if_eq (tgt := 91) hx hb dX7_joins_60 (by decide) (fun c_60 => ?_) (fun c_60 => ?_)
        · skip
          have hm2 : mayB (kboM I d o e) o e i = false := (may_congr ((jf_see (by decide) (by decide) (by decide) (by decide) _).trans (jn_see (by decide) (by decide) (by decide) (by decide) _)) ((jf_see (by decide) (by decide) (by decide) (by decide) _).trans (jn_see (by decide) (by decide) (by decide) (by decide) _)) _ _ _).symm.trans c_60
          have hs0 : shP (kboM I d o e) d o e i = false := by simp only [shP, hm1, hm2, decide_true, decide_false, Bool.not_true, Bool.not_false, Bool.and_true, Bool.and_false, Bool.true_and, Bool.false_and, Bool.or_true, Bool.or_false, Bool.true_or, Bool.false_or, Bool.and_self, Bool.or_self, ↓reduceIte, Bool.false_eq_true, not_false_eq_true, not_true_eq_false]
          refine n_iinc (j := i) (n := 1) (lv' := [(4, .int (nI (i + 1))), (5, .int (nI j)), (3, .int (nI e)), (2, .int (nI o)), (1, .int (nI d)), (0, .ref (ad (30, 0, 0, 0)))]) hx hb dX7_joins_91 hl (k := 1) rfl (by decide) (by decide) rfl (fun ls hl => ?_)
          refine lv_goto (tgt := 25) hx hb dX7_joins_94 (by decide) ?_
          have hm : (jfM (jnM (kboM I d o e) d o e i) d o e i j) = (jnM (kboM I d o e) d o e (i + 1)) := by
            obtain rfl : j = 0 := hj34.resolve_right (by rw [hs0]; decide)
            rw [jnM, if_neg (by rw [hs0]; decide)]
            rfl
          exact ih25 (i + 1) (by omega) (by omega) H locs ls (h.eq (congrArg (lay tc ad gm dz) hm)) (lv_sub hl [0, 2, 3, 4, 5] rfl)
        · skip
          have hm2 : mayB (kboM I d o e) o e i = true := (may_congr ((jf_see (by decide) (by decide) (by decide) (by decide) _).trans (jn_see (by decide) (by decide) (by decide) (by decide) _)) ((jf_see (by decide) (by decide) (by decide) (by decide) _).trans (jn_see (by decide) (by decide) (by decide) (by decide) _)) _ _ _).symm.trans c_60
          have hs0 : shP (kboM I d o e) d o e i = true := by simp only [shP, hm1, hm2, decide_true, decide_false, Bool.not_true, Bool.not_false, Bool.and_true, Bool.and_false, Bool.true_and, Bool.false_and, Bool.or_true, Bool.or_false, Bool.true_or, Bool.false_or, Bool.and_self, Bool.or_self, ↓reduceIte, Bool.false_eq_true, not_false_eq_true, not_true_eq_false]
          refine lv_aload_n hx hb dX7_joins_63 rfl (lv_at hl 5 rfl) ?_
          refine lv_iload_n hx hb dX7_joins_64 rfl (lv_at hl 4 rfl) ?_
          refine lv_iload_n hx hb dX7_joins_65 rfl (lv_at hl 2 rfl) ?_
          refine lv_iload hx hb dX7_joins_66 (lv_at hl 1 rfl) ?_
          refine lv_iload hx hb dX7_joins_68 (lv_at hl 0 rfl) ?_
          refine x_doneI X h (x_runS X h (m_X7_place (jfM (jnM (kboM I d o e) d o e i) d o e i j) d e i j _) F_X7_place q893 q894 rfl (by decide) (by decide) ⟨Nat.le_refl _, Nat.le_refl _⟩ hl.1 (Nat.le_of_ble_eq_true rfl) dX7_joins_70 rfl) (fun H locs h => ?_)
          refine lv_iload_n hx hb dX7_joins_73 rfl (lv_at hl 3 rfl) ?_
          refine lv_iload_n hx hb dX7_joins_74 rfl (lv_at hl 2 rfl) ?_
          refine lv_iload hx hb dX7_joins_75 (lv_at hl 1 rfl) ?_
          refine lv_iload hx hb dX7_joins_77 (lv_at hl 0 rfl) ?_
          refine x_doneI X h (x_runS X h (m_X7_place (jfM (jnM (kboM I d o e) d o e i) d o e i j) o e i j _) F_X7_place q893 q894 rfl (by decide) (by decide) ⟨Nat.le_refl _, Nat.le_refl _⟩ hl.1 (Nat.le_of_ble_eq_true rfl) dX7_joins_79 rfl) (fun H locs h => ?_)
          refine x_doneV X h (x_runV X h (k := (30, 0, 0, 0)) (m_X7_merges (jfM (jnM (kboM I d o e) d o e i) d o e i j) hL (24 * (10 * d + e) + 6 * i + j) (24 * (10 * o + e) + 6 * i + j) (by omega) (by omega) _) F_X7_merges q947 q949 q19 (hL (30, 0, 0, 0) ⟨by decide, rfl, rfl, rfl⟩) rfl rfl rfl (by decide) (by decide) ⟨Nat.le_refl _, Nat.le_refl _⟩ hl.1 (Nat.le_of_ble_eq_true rfl) dX7_joins_82 rfl) (fun H locs h => ?_)
          refine n_iinc (j := j) (n := 1) (lv' := [(5, .int (nI (j + 1))), (4, .int (nI i)), (3, .int (nI e)), (2, .int (nI o)), (1, .int (nI d)), (0, .ref (ad (30, 0, 0, 0)))]) hx hb dX7_joins_85 hl (k := 0) rfl (by decide) (by decide) rfl (fun ls hl => ?_)
          refine lv_goto (tgt := 34) hx hb dX7_joins_88 (by decide) ?_
          exact ih34 (j + 1) ⟨by omega, Or.inr hs0⟩ (by omega) H locs ls (h.eq (congrArg (lay tc ad gm dz) rfl)) (lv_sub hl [0, 1, 2, 3, 4, 5] rfl)

set_option maxHeartbeats 4000000 in
set_option maxRecDepth 100000 in
theorem m_X7_notes {l : Launch} {D : va_G} {tc : TC} {dz : Nat} {ad : KN → Nat} {Ks : List KN} {gm : GM} (I : Mem) (hL : LV gm Ks) (d o e : Nat) (hd : d < 6) (ho : o < 6) (he : e < 10) (hne : d ≠ o) : MV l yX7_notes cX7_notes 7 1 D tc dz ad Ks (lay tc ad gm dz I) [.ref (ad (30, 0, 0, 0)), .int (nI d), .int (nI o), .int (nI e)] (lay tc ad gm dz (notM I d o e)) := by
  intro sz
  refine x_ofW (by decide +kernel) (Nat.le_of_ble_eq_true rfl) (fun pp ee s mm bel meth cd ls X hr hin hz h hl => ?_)
  subst hz
  obtain ⟨hx, hb, hmaxL, hown, hts⟩ := id X.1
  have hl : lv_has ls 7 [(0, .ref (ad (30, 0, 0, 0))), (1, .int (nI d)), (2, .int (nI o)), (3, .int (nI e))] := hl
  refine y_join (D := D) (A := wA ad Ks s.heap.size) (ad := ad) (Ks := Ks) (nL := 7) 33 (fun _ : Unit => lay tc ad gm dz I) (fun _ => [(4, .int (bI (ntH I d o e))), (0, .ref (ad (30, 0, 0, 0))), (1, .int (nI d)), (2, .int (nI o)), (3, .int (nI e))]) (fun _ => []) (fun _ => True) (fun jn33 => ?_) (fun _ _ H locs ls h hl => ?_)
  · skip
    refine lv_aload_n hx hb dX7_notes_0 rfl (lv_at hl 0 rfl) ?_
    refine gf_Model_hasNote X h (hL (30, 0, 0, 0) ⟨by decide, rfl, rfl, rfl⟩) q805 dX7_notes_1 ?_
    refine lv_iload_n hx hb dX7_notes_4 rfl (lv_at hl 1 rfl) ?_
    refine lv_iload_n hx hb dX7_notes_5 rfl (lv_at hl 3 rfl) ?_
    refine x_doneI X h (x_runS X h (m_X7_pair I d e _) F_X7_pair q867 q868 rfl (by decide) (by decide) ⟨Nat.le_refl _, Nat.le_refl _⟩ hl.1 (Nat.le_of_ble_eq_true rfl) dX7_notes_6 rfl) (fun H locs h => ?_)
    refine y_zald X h (fun _ => rfl) (by decide) (hL (38, 0, 0, 0) ⟨by decide, rfl, rfl, rfl⟩) (by omega) (v := I (38, 0, 0, 0) (10 * d + e)) rfl dX7_notes_9 ?_
    refine lv_if_ne (tgt := 26) hx hb dX7_notes_10 (by decide) (fun c_10 => ?_) (fun c_10 => ?_)
    · skip
      refine lv_iconst (v := nI 1) hx hb dX7_notes_26 (by decide) ?_
      refine lv_goto (tgt := 31) hx hb dX7_notes_27 (by decide) ?_
      refine lv_istore (lv' := [(4, .int (nI 1)), (0, .ref (ad (30, 0, 0, 0))), (1, .int (nI d)), (2, .int (nI o)), (3, .int (nI e))]) hx hb dX7_notes_31 hl (by decide) rfl (fun ls hl => ?_)
      have hcn : bI (ntH I d o e) = nI 1 := by simp only [ntH, c_10, decide_true, decide_false, Bool.not_true, Bool.not_false, Bool.and_true, Bool.and_false, Bool.true_and, Bool.false_and, Bool.or_true, Bool.or_false, Bool.true_or, Bool.false_or, Bool.and_self, Bool.or_self, ↓reduceIte, Bool.false_eq_true, not_false_eq_true, not_true_eq_false] <;> rfl
      have hl : lv_has ls 7 [(4, .int (bI (ntH I d o e))), (0, .ref (ad (30, 0, 0, 0))), (1, .int (nI d)), (2, .int (nI o)), (3, .int (nI e))] := by rw [hcn]; exact hl
      exact jn33 () trivial _ _ _ (h.eq (congrArg (lay tc ad gm dz) rfl)) (lv_sub hl [0, 1, 2, 3, 4] rfl)
    · skip
      refine lv_aload_n hx hb dX7_notes_13 rfl (lv_at hl 0 rfl) ?_
      refine gf_Model_hasNote X h (hL (30, 0, 0, 0) ⟨by decide, rfl, rfl, rfl⟩) q805 dX7_notes_14 ?_
      refine lv_iload_n hx hb dX7_notes_17 rfl (lv_at hl 2 rfl) ?_
      refine lv_iload_n hx hb dX7_notes_18 rfl (lv_at hl 3 rfl) ?_
      refine x_doneI X h (x_runS X h (m_X7_pair I o e _) F_X7_pair q867 q868 rfl (by decide) (by decide) ⟨Nat.le_refl _, Nat.le_refl _⟩ hl.1 (Nat.le_of_ble_eq_true rfl) dX7_notes_19 rfl) (fun H locs h => ?_)
      refine y_zald X h (fun _ => rfl) (by decide) (hL (38, 0, 0, 0) ⟨by decide, rfl, rfl, rfl⟩) (by omega) (v := I (38, 0, 0, 0) (10 * o + e)) rfl dX7_notes_22 ?_
      refine lv_if_eq (tgt := 30) hx hb dX7_notes_23 (by decide) (fun c_23 => ?_) (fun c_23 => ?_)
      · skip
        refine lv_iconst (v := nI 0) hx hb dX7_notes_30 (by decide) ?_
        refine lv_istore (lv' := [(4, .int (nI 0)), (0, .ref (ad (30, 0, 0, 0))), (1, .int (nI d)), (2, .int (nI o)), (3, .int (nI e))]) hx hb dX7_notes_31 hl (by decide) rfl (fun ls hl => ?_)
        have hcn : bI (ntH I d o e) = nI 0 := by simp only [ntH, eq_true c_10, eq_true c_23, decide_true, decide_false, Bool.not_true, Bool.not_false, Bool.and_true, Bool.and_false, Bool.true_and, Bool.false_and, Bool.or_true, Bool.or_false, Bool.true_or, Bool.false_or, Bool.and_self, Bool.or_self, ↓reduceIte, Bool.false_eq_true, not_false_eq_true, not_true_eq_false] <;> rfl
        have hl : lv_has ls 7 [(4, .int (bI (ntH I d o e))), (0, .ref (ad (30, 0, 0, 0))), (1, .int (nI d)), (2, .int (nI o)), (3, .int (nI e))] := by rw [hcn]; exact hl
        exact jn33 () trivial _ _ _ (h.eq (congrArg (lay tc ad gm dz) rfl)) (lv_sub hl [0, 1, 2, 3, 4] rfl)
      · skip
        refine lv_iconst (v := nI 1) hx hb dX7_notes_26 (by decide) ?_
        refine lv_goto (tgt := 31) hx hb dX7_notes_27 (by decide) ?_
        refine lv_istore (lv' := [(4, .int (nI 1)), (0, .ref (ad (30, 0, 0, 0))), (1, .int (nI d)), (2, .int (nI o)), (3, .int (nI e))]) hx hb dX7_notes_31 hl (by decide) rfl (fun ls hl => ?_)
        have hcn : bI (ntH I d o e) = nI 1 := by simp only [ntH, eq_true c_10, c_23, decide_true, decide_false, Bool.not_true, Bool.not_false, Bool.and_true, Bool.and_false, Bool.true_and, Bool.false_and, Bool.or_true, Bool.or_false, Bool.true_or, Bool.false_or, Bool.and_self, Bool.or_self, ↓reduceIte, Bool.false_eq_true, not_false_eq_true, not_true_eq_false] <;> rfl
        have hl : lv_has ls 7 [(4, .int (bI (ntH I d o e))), (0, .ref (ad (30, 0, 0, 0))), (1, .int (nI d)), (2, .int (nI o)), (3, .int (nI e))] := by rw [hcn]; exact hl
        exact jn33 () trivial _ _ _ (h.eq (congrArg (lay tc ad gm dz) rfl)) (lv_sub hl [0, 1, 2, 3, 4] rfl)
  · have h : Sx D (wA ad Ks s.heap.size) ad Ks (lay tc ad gm dz I) s H locs := h
    have hl : lv_has ls 7 [(4, .int (bI (ntH I d o e))), (0, .ref (ad (30, 0, 0, 0))), (1, .int (nI d)), (2, .int (nI o)), (3, .int (nI e))] := hl
    refine lv_iconst (v := nI 0) hx hb dX7_notes_33 (by decide) ?_
    refine lv_istore (lv' := [(5, .int (nI 0)), (4, .int (bI (ntH I d o e))), (0, .ref (ad (30, 0, 0, 0))), (1, .int (nI d)), (2, .int (nI o)), (3, .int (nI e))]) hx hb dX7_notes_34 hl (by decide) rfl (fun ls hl => ?_)
    refine y_loop (D := D) (A := wA ad Ks s.heap.size) (ad := ad) (Ks := Ks) (nL := 7) (fun i : Nat => lay tc ad gm dz (sset I (39, 0, 0, 0) (ntN I d o e i))) (fun i => [(5, .int (nI i)), (4, .int (bI (ntH I d o e))), (3, .int (nI e)), (2, .int (nI o)), (1, .int (nI d)), (0, .ref (ad (30, 0, 0, 0)))]) (fun _ => []) (fun i : Nat => i ≤ 24 ∧ (i = 0 ∨ ntH I d o e = true)) (fun i => 24 - i) (fun i hi36 ih36 H locs ls h hl => ?_) 0 ⟨Nat.zero_le _, Or.inl rfl⟩ (h.eq (congrArg (lay tc ad gm dz) (by rw [ntN_0, sset_id]))) (lv_sub hl [0, 1, 5, 4, 3, 2] rfl) rfl
    have h : Sx D (wA ad Ks s.heap.size) ad Ks (lay tc ad gm dz (sset I (39, 0, 0, 0) (ntN I d o e i))) s H locs := h
    have hl : lv_has ls 7 [(5, .int (nI i)), (4, .int (bI (ntH I d o e))), (3, .int (nI e)), (2, .int (nI o)), (1, .int (nI d)), (0, .ref (ad (30, 0, 0, 0)))] := hl
    obtain ⟨hi36, hj36⟩ := hi36
    refine lv_iload hx hb dX7_notes_36 (lv_at hl 0 rfl) ?_
    refine lv_bipush (v := nI 24) hx hb dX7_notes_38 (by decide) ?_
    refine n_icmp_ge (tgt := 127) hx hb (by omega) (by omega) dX7_notes_40 (by decide) (fun c_40 => ?_) (fun c_40 => ?_)
    · skip
      obtain rfl : i = 24 := by omega
      have hH := hj36.resolve_left (by omega)
      refine lv_aload_n hx hb dX7_notes_127 rfl (lv_at hl 5 rfl) ?_
      refine gf_Model_hasNote X h (hL (30, 0, 0, 0) ⟨by decide, rfl, rfl, rfl⟩) q805 dX7_notes_128 ?_
      refine lv_iload_n hx hb dX7_notes_131 rfl (lv_at hl 4 rfl) ?_
      refine lv_iload_n hx hb dX7_notes_132 rfl (lv_at hl 2 rfl) ?_
      refine x_doneI X h (x_runS X h (m_X7_pair (sset I (39, 0, 0, 0) (ntN I d o e 24)) d e _) F_X7_pair q867 q868 rfl (by decide) (by decide) ⟨Nat.le_refl _, Nat.le_refl _⟩ hl.1 (Nat.le_of_ble_eq_true rfl) dX7_notes_133 rfl) (fun H locs h => ?_)
      refine lv_iload hx hb dX7_notes_136 (lv_at hl 1 rfl) ?_
      refine y_zast X h (fun _ => rfl) (by decide) (hL (38, 0, 0, 0) ⟨by decide, rfl, rfl, rfl⟩) (by omega) (bI_vp _) dX7_notes_138 (fun H locs h => ?_)
      refine lv_aload_n hx hb dX7_notes_139 rfl (lv_at hl 5 rfl) ?_
      refine gf_Model_hasNote X h (hL (30, 0, 0, 0) ⟨by decide, rfl, rfl, rfl⟩) q805 dX7_notes_140 ?_
      refine lv_iload_n hx hb dX7_notes_143 rfl (lv_at hl 3 rfl) ?_
      refine lv_iload_n hx hb dX7_notes_144 rfl (lv_at hl 2 rfl) ?_
      refine x_doneI X h (x_runS X h (m_X7_pair (sset (sset I (39, 0, 0, 0) (ntN I d o e 24)) (38, 0, 0, 0) (upd ((sset I (39, 0, 0, 0) (ntN I d o e 24)) (38, 0, 0, 0)) (10 * d + e) (bI (ntH I d o e)))) o e _) F_X7_pair q867 q868 rfl (by decide) (by decide) ⟨Nat.le_refl _, Nat.le_refl _⟩ hl.1 (Nat.le_of_ble_eq_true rfl) dX7_notes_145 rfl) (fun H locs h => ?_)
      refine lv_iload hx hb dX7_notes_148 (lv_at hl 1 rfl) ?_
      refine y_zast X h (fun _ => rfl) (by decide) (hL (38, 0, 0, 0) ⟨by decide, rfl, rfl, rfl⟩) (by omega) (bI_vp _) dX7_notes_150 (fun H locs h => ?_)
      refine x_vret X h hr (fun k _ => congrFun (congrArg (lay tc ad gm dz) ?_) k) dX7_notes_151
      · simp only [notM, hH, sset_sset, sset_eq, sset_ne _ _ (nek (by decide) : ((38, 0, 0, 0) : KN) ≠ (39, 0, 0, 0)), decide_true, decide_false, Bool.not_true, Bool.not_false, Bool.and_true, Bool.and_false, Bool.true_and, Bool.false_and, Bool.or_true, Bool.or_false, Bool.true_or, Bool.false_or, Bool.and_self, Bool.or_self, ↓reduceIte, Bool.false_eq_true, not_false_eq_true, not_true_eq_false]
    · skip
      refine lv_iload hx hb dX7_notes_43 (lv_at hl 1 rfl) ?_
      refine b_if_eq (tgt := 127) hx hb dX7_notes_45 (by decide) (fun c_45 => ?_) (fun c_45 => ?_)
      · skip
        obtain rfl : i = 0 := hj36.resolve_right (by rw [c_45]; decide)
        have hH := c_45
        refine lv_aload_n hx hb dX7_notes_127 rfl (lv_at hl 5 rfl) ?_
        refine gf_Model_hasNote X h (hL (30, 0, 0, 0) ⟨by decide, rfl, rfl, rfl⟩) q805 dX7_notes_128 ?_
        refine lv_iload_n hx hb dX7_notes_131 rfl (lv_at hl 4 rfl) ?_
        refine lv_iload_n hx hb dX7_notes_132 rfl (lv_at hl 2 rfl) ?_
        refine x_doneI X h (x_runS X h (m_X7_pair (sset I (39, 0, 0, 0) (ntN I d o e 0)) d e _) F_X7_pair q867 q868 rfl (by decide) (by decide) ⟨Nat.le_refl _, Nat.le_refl _⟩ hl.1 (Nat.le_of_ble_eq_true rfl) dX7_notes_133 rfl) (fun H locs h => ?_)
        refine lv_iload hx hb dX7_notes_136 (lv_at hl 1 rfl) ?_
        refine y_zast X h (fun _ => rfl) (by decide) (hL (38, 0, 0, 0) ⟨by decide, rfl, rfl, rfl⟩) (by omega) (bI_vp _) dX7_notes_138 (fun H locs h => ?_)
        refine lv_aload_n hx hb dX7_notes_139 rfl (lv_at hl 5 rfl) ?_
        refine gf_Model_hasNote X h (hL (30, 0, 0, 0) ⟨by decide, rfl, rfl, rfl⟩) q805 dX7_notes_140 ?_
        refine lv_iload_n hx hb dX7_notes_143 rfl (lv_at hl 3 rfl) ?_
        refine lv_iload_n hx hb dX7_notes_144 rfl (lv_at hl 2 rfl) ?_
        refine x_doneI X h (x_runS X h (m_X7_pair (sset (sset I (39, 0, 0, 0) (ntN I d o e 0)) (38, 0, 0, 0) (upd ((sset I (39, 0, 0, 0) (ntN I d o e 0)) (38, 0, 0, 0)) (10 * d + e) (bI (ntH I d o e)))) o e _) F_X7_pair q867 q868 rfl (by decide) (by decide) ⟨Nat.le_refl _, Nat.le_refl _⟩ hl.1 (Nat.le_of_ble_eq_true rfl) dX7_notes_145 rfl) (fun H locs h => ?_)
        refine lv_iload hx hb dX7_notes_148 (lv_at hl 1 rfl) ?_
        refine y_zast X h (fun _ => rfl) (by decide) (hL (38, 0, 0, 0) ⟨by decide, rfl, rfl, rfl⟩) (by omega) (bI_vp _) dX7_notes_150 (fun H locs h => ?_)
        refine x_vret X h hr (fun k _ => congrFun (congrArg (lay tc ad gm dz) ?_) k) dX7_notes_151
        · simp only [notM, hH, ntN_0, sset_id, sset_sset, sset_eq, decide_true, decide_false, Bool.not_true, Bool.not_false, Bool.and_true, Bool.and_false, Bool.true_and, Bool.false_and, Bool.or_true, Bool.or_false, Bool.true_or, Bool.false_or, Bool.and_self, Bool.or_self, ↓reduceIte, Bool.false_eq_true, not_false_eq_true, not_true_eq_false]
      · skip
        refine lv_aload_n hx hb dX7_notes_48 rfl (lv_at hl 5 rfl) ?_
        refine gf_Model_note X h (hL (30, 0, 0, 0) ⟨by decide, rfl, rfl, rfl⟩) q806 dX7_notes_49 ?_
        refine lv_bipush (v := nI 24) hx hb dX7_notes_52 (by decide) ?_
        refine lv_iload_n hx hb dX7_notes_54 rfl (lv_at hl 4 rfl) ?_
        refine lv_iload_n hx hb dX7_notes_55 rfl (lv_at hl 2 rfl) ?_
        refine x_doneI X h (x_runS X h (m_X7_pair (sset I (39, 0, 0, 0) (ntN I d o e i)) d e _) F_X7_pair q867 q868 rfl (by decide) (by decide) ⟨Nat.le_refl _, Nat.le_refl _⟩ hl.1 (Nat.le_of_ble_eq_true rfl) dX7_notes_56 rfl) (fun H locs h => ?_)
        refine n_imul hx hb dX7_notes_59 ?_
        refine lv_iload hx hb dX7_notes_60 (lv_at hl 0 rfl) ?_
        refine n_iadd hx hb dX7_notes_62 ?_
        refine y_ald X h (fun _ => rfl) (by decide) (hL (39, 0, 0, 0) ⟨by decide, rfl, rfl, rfl⟩) (by omega) (v := (I (39, 0, 0, 0)) ((24 * (10 * d + e)) + i)) (by rw [sset_eq, ntN_a1 (by omega) (by omega) hne]) dX7_notes_63 ?_
        refine lv_aload_n hx hb dX7_notes_64 rfl (lv_at hl 5 rfl) ?_
        refine gf_Model_note X h (hL (30, 0, 0, 0) ⟨by decide, rfl, rfl, rfl⟩) q806 dX7_notes_65 ?_
        refine lv_bipush (v := nI 24) hx hb dX7_notes_68 (by decide) ?_
        refine lv_iload_n hx hb dX7_notes_70 rfl (lv_at hl 3 rfl) ?_
        refine lv_iload_n hx hb dX7_notes_71 rfl (lv_at hl 2 rfl) ?_
        refine x_doneI X h (x_runS X h (m_X7_pair (sset I (39, 0, 0, 0) (ntN I d o e i)) o e _) F_X7_pair q867 q868 rfl (by decide) (by decide) ⟨Nat.le_refl _, Nat.le_refl _⟩ hl.1 (Nat.le_of_ble_eq_true rfl) dX7_notes_72 rfl) (fun H locs h => ?_)
        refine n_imul hx hb dX7_notes_75 ?_
        refine lv_iload hx hb dX7_notes_76 (lv_at hl 0 rfl) ?_
        refine n_iadd hx hb dX7_notes_78 ?_
        refine y_ald X h (fun _ => rfl) (by decide) (hL (39, 0, 0, 0) ⟨by decide, rfl, rfl, rfl⟩) (by omega) (v := (I (39, 0, 0, 0)) ((24 * (10 * o + e)) + i)) (by rw [sset_eq, ntN_a2 (by omega) (by omega) hne]) dX7_notes_79 ?_
        refine x_doneI X h (x_runS X h (m_X7_greater (sset I (39, 0, 0, 0) (ntN I d o e i)) ((I (39, 0, 0, 0)) ((24 * (10 * d + e)) + i)) ((I (39, 0, 0, 0)) ((24 * (10 * o + e)) + i)) _) F_X7_greater q940 q941 rfl (by decide) (by decide) ⟨Nat.le_refl _, Nat.le_refl _⟩ hl.1 (Nat.le_of_ble_eq_true rfl) dX7_notes_80 rfl) (fun H locs h => ?_)
        refine lv_istore (lv' := [(6, .int (imax ((I (39, 0, 0, 0)) ((24 * (10 * d + e)) + i)) ((I (39, 0, 0, 0)) ((24 * (10 * o + e)) + i)))), (5, .int (nI i)), (4, .int (bI (ntH I d o e))), (3, .int (nI e)), (2, .int (nI o)), (1, .int (nI d)), (0, .ref (ad (30, 0, 0, 0)))]) hx hb dX7_notes_83 hl (by decide) rfl (fun ls hl => ?_)
        refine lv_aload_n hx hb dX7_notes_85 rfl (lv_at hl 6 rfl) ?_
        refine gf_Model_note X h (hL (30, 0, 0, 0) ⟨by decide, rfl, rfl, rfl⟩) q806 dX7_notes_86 ?_
        refine lv_bipush (v := nI 24) hx hb dX7_notes_89 (by decide) ?_
        refine lv_iload_n hx hb dX7_notes_91 rfl (lv_at hl 5 rfl) ?_
        refine lv_iload_n hx hb dX7_notes_92 rfl (lv_at hl 3 rfl) ?_
        refine x_doneI X h (x_runS X h (m_X7_pair (sset I (39, 0, 0, 0) (ntN I d o e i)) d e _) F_X7_pair q867 q868 rfl (by decide) (by decide) ⟨Nat.le_refl _, Nat.le_refl _⟩ hl.1 (Nat.le_of_ble_eq_true rfl) dX7_notes_93 rfl) (fun H locs h => ?_)
        refine n_imul hx hb dX7_notes_96 ?_
        refine lv_iload hx hb dX7_notes_97 (lv_at hl 1 rfl) ?_
        refine n_iadd hx hb dX7_notes_99 ?_
        refine lv_iload hx hb dX7_notes_100 (lv_at hl 0 rfl) ?_
        refine y_ast X h (fun _ => rfl) (by decide) (hL (39, 0, 0, 0) ⟨by decide, rfl, rfl, rfl⟩) (by omega) dX7_notes_102 (fun H locs h => ?_)
        refine lv_aload_n hx hb dX7_notes_103 rfl (lv_at hl 6 rfl) ?_
        refine gf_Model_note X h (hL (30, 0, 0, 0) ⟨by decide, rfl, rfl, rfl⟩) q806 dX7_notes_104 ?_
        refine lv_bipush (v := nI 24) hx hb dX7_notes_107 (by decide) ?_
        refine lv_iload_n hx hb dX7_notes_109 rfl (lv_at hl 4 rfl) ?_
        refine lv_iload_n hx hb dX7_notes_110 rfl (lv_at hl 3 rfl) ?_
        refine x_doneI X h (x_runS X h (m_X7_pair (sset (sset I (39, 0, 0, 0) (ntN I d o e i)) (39, 0, 0, 0) (upd ((sset I (39, 0, 0, 0) (ntN I d o e i)) (39, 0, 0, 0)) ((24 * (10 * d + e)) + i) (imax ((I (39, 0, 0, 0)) ((24 * (10 * d + e)) + i)) ((I (39, 0, 0, 0)) ((24 * (10 * o + e)) + i))))) o e _) F_X7_pair q867 q868 rfl (by decide) (by decide) ⟨Nat.le_refl _, Nat.le_refl _⟩ hl.1 (Nat.le_of_ble_eq_true rfl) dX7_notes_111 rfl) (fun H locs h => ?_)
        refine n_imul hx hb dX7_notes_114 ?_
        refine lv_iload hx hb dX7_notes_115 (lv_at hl 1 rfl) ?_
        refine n_iadd hx hb dX7_notes_117 ?_
        refine lv_iload hx hb dX7_notes_118 (lv_at hl 0 rfl) ?_
        refine y_ast X h (fun _ => rfl) (by decide) (hL (39, 0, 0, 0) ⟨by decide, rfl, rfl, rfl⟩) (by omega) dX7_notes_120 (fun H locs h => ?_)
        refine n_iinc (j := i) (n := 1) (lv' := [(5, .int (nI (i + 1))), (6, .int (imax ((I (39, 0, 0, 0)) ((24 * (10 * d + e)) + i)) ((I (39, 0, 0, 0)) ((24 * (10 * o + e)) + i)))), (4, .int (bI (ntH I d o e))), (3, .int (nI e)), (2, .int (nI o)), (1, .int (nI d)), (0, .ref (ad (30, 0, 0, 0)))]) hx hb dX7_notes_121 hl (k := 1) rfl (by decide) (by decide) rfl (fun ls hl => ?_)
        refine lv_goto (tgt := 36) hx hb dX7_notes_124 (by decide) ?_
        have hm : (sset (sset (sset I (39, 0, 0, 0) (ntN I d o e i)) (39, 0, 0, 0) (upd ((sset I (39, 0, 0, 0) (ntN I d o e i)) (39, 0, 0, 0)) ((24 * (10 * d + e)) + i) (imax ((I (39, 0, 0, 0)) ((24 * (10 * d + e)) + i)) ((I (39, 0, 0, 0)) ((24 * (10 * o + e)) + i))))) (39, 0, 0, 0) (upd ((sset (sset I (39, 0, 0, 0) (ntN I d o e i)) (39, 0, 0, 0) (upd ((sset I (39, 0, 0, 0) (ntN I d o e i)) (39, 0, 0, 0)) ((24 * (10 * d + e)) + i) (imax ((I (39, 0, 0, 0)) ((24 * (10 * d + e)) + i)) ((I (39, 0, 0, 0)) ((24 * (10 * o + e)) + i))))) (39, 0, 0, 0)) ((24 * (10 * o + e)) + i) (imax ((I (39, 0, 0, 0)) ((24 * (10 * d + e)) + i)) ((I (39, 0, 0, 0)) ((24 * (10 * o + e)) + i))))) = (sset I (39, 0, 0, 0) (ntN I d o e (i + 1))) := by
          simp only [sset_sset, sset_eq]
          rw [ntN_s (by omega) (by omega) hne rfl]
        exact ih36 (i + 1) ⟨by omega, Or.inr c_45⟩ (by omega) H locs ls (h.eq (congrArg (lay tc ad gm dz) hm)) (lv_sub hl [0, 2, 3, 4, 5, 6] rfl)

set_option maxHeartbeats 4000000 in
set_option maxRecDepth 100000 in
theorem m_X7_isAged {l : Launch} {D : va_G} {tc : TC} {dz : Nat} {ad : KN → Nat} {Ks : List KN} {gm : GM} (I : Mem) (hL : LV gm Ks) (d e : Nat) (hd : d < 6) (he : e < 10) (m : Nat) (hmm : I (30, 0, 0, 0) 2 = nI m) (hm5 : m ≤ 1000) : MI l yX7_isAged cX7_isAged 6 (Option.some ClassFile.FieldType.boolean) 1 D tc dz ad Ks (lay tc ad gm dz I) [.ref (ad (30, 0, 0, 0)), .int (nI d), .int (nI e)] (bI (agC I d e m && decide (0 < agN I d e m))) (lay tc ad gm dz I) := by
  intro sz
  refine x_ofW (by decide +kernel) (Nat.le_of_ble_eq_true rfl) (fun pp ee s mm bel meth cd ls X hr hin hz h hl => ?_)
  subst hz
  obtain ⟨hx, hb, hmaxL, hown, hts⟩ := id X.1
  have hl : lv_has ls 6 [(0, .ref (ad (30, 0, 0, 0))), (1, .int (nI d)), (2, .int (nI e))] := hl
  refine lv_iconst (v := nI 0) hx hb dX7_isAged_0 (by decide) ?_
  refine lv_istore_n (lv' := [(3, .int (nI 0)), (0, .ref (ad (30, 0, 0, 0))), (1, .int (nI d)), (2, .int (nI e))]) hx hb dX7_isAged_1 rfl hl (by decide) rfl (fun ls hl => ?_)
  refine lv_iconst (v := nI 1) hx hb dX7_isAged_2 (by decide) ?_
  refine lv_istore (lv' := [(4, .int (nI 1)), (3, .int (nI 0)), (0, .ref (ad (30, 0, 0, 0))), (1, .int (nI d)), (2, .int (nI e))]) hx hb dX7_isAged_3 hl (by decide) rfl (fun ls hl => ?_)
  refine lv_iconst (v := nI 0) hx hb dX7_isAged_5 (by decide) ?_
  refine lv_istore (lv' := [(5, .int (nI 0)), (4, .int (nI 1)), (3, .int (nI 0)), (0, .ref (ad (30, 0, 0, 0))), (1, .int (nI d)), (2, .int (nI e))]) hx hb dX7_isAged_6 hl (by decide) rfl (fun ls hl => ?_)
  refine y_loop (D := D) (A := wA ad Ks s.heap.size) (ad := ad) (Ks := Ks) (nL := 6) (fun i : Nat => lay tc ad gm dz I) (fun i => [(5, .int (nI i)), (4, .int (bI (agC I d e i))), (3, .int (nI (agN I d e i))), (2, .int (nI e)), (1, .int (nI d)), (0, .ref (ad (30, 0, 0, 0)))]) (fun _ => []) (fun i : Nat => i ≤ m) (fun i => m - i) (fun i hi8 ih8 H locs ls h hl => ?_) 0 (Nat.zero_le _) (h.eq (congrArg (lay tc ad gm dz) rfl)) (lv_sub hl [0, 1, 2, 5, 4, 3] rfl) rfl
  have h : Sx D (wA ad Ks s.heap.size) ad Ks (lay tc ad gm dz I) s H locs := h
  have hl : lv_has ls 6 [(5, .int (nI i)), (4, .int (bI (agC I d e i))), (3, .int (nI (agN I d e i))), (2, .int (nI e)), (1, .int (nI d)), (0, .ref (ad (30, 0, 0, 0)))] := hl
  refine lv_iload hx hb dX7_isAged_8 (lv_at hl 0 rfl) ?_
  refine lv_aload_n hx hb dX7_isAged_10 rfl (lv_at hl 5 rfl) ?_
  refine gf_Model_marks X h (hL (30, 0, 0, 0) ⟨by decide, rfl, rfl, rfl⟩) q807 (v := nI m) hmm dX7_isAged_11 ?_
  refine n_icmp_ge (tgt := 83) hx hb (by omega) (by omega) dX7_isAged_14 (by decide) (fun c_14 => ?_) (fun c_14 => ?_)
  · skip
    have him : m = i := by omega
    subst him
    refine lv_iload hx hb dX7_isAged_83 (lv_at hl 1 rfl) ?_
    refine b_if_eq (tgt := 96) hx hb dX7_isAged_85 (by decide) (fun c_85 => ?_) (fun c_85 => ?_)
    · skip
      refine lv_iconst (v := nI 0) hx hb dX7_isAged_96 (by decide) ?_
      refine x_iret X h hr (by decide) ?_ (fun _ _ => rfl) dX7_isAged_97
      · simp only [c_85, decide_true, decide_false, Bool.not_true, Bool.not_false, Bool.and_true, Bool.and_false, Bool.true_and, Bool.false_and, Bool.or_true, Bool.or_false, Bool.true_or, Bool.false_or, Bool.and_self, Bool.or_self, ↓reduceIte, Bool.false_eq_true, not_false_eq_true, not_true_eq_false] <;> rfl
    · skip
      refine lv_iload_n hx hb dX7_isAged_88 rfl (lv_at hl 2 rfl) ?_
      have hca := agN_le I d e m
      refine lv_if_le (tgt := 96) hx hb dX7_isAged_89 (by decide) (fun c_89 => ?_) (fun c_89 => ?_)
      · skip
        have c_89 := n_le0 (by omega) c_89
        refine lv_iconst (v := nI 0) hx hb dX7_isAged_96 (by decide) ?_
        refine x_iret X h hr (by decide) ?_ (fun _ _ => rfl) dX7_isAged_97
        · simp only [c_85, c_89, decide_true, decide_false, Bool.not_true, Bool.not_false, Bool.and_true, Bool.and_false, Bool.true_and, Bool.false_and, Bool.or_true, Bool.or_false, Bool.true_or, Bool.false_or, Bool.and_self, Bool.or_self, ↓reduceIte, Bool.false_eq_true, not_false_eq_true, not_true_eq_false] <;> rfl
      · skip
        have c_89 := n_gt0 (by omega) c_89
        refine lv_iconst (v := nI 1) hx hb dX7_isAged_92 (by decide) ?_
        refine lv_goto (tgt := 97) hx hb dX7_isAged_93 (by decide) ?_
        refine x_iret X h hr (by decide) ?_ (fun _ _ => rfl) dX7_isAged_97
        · simp only [c_85, c_89, decide_true, decide_false, Bool.not_true, Bool.not_false, Bool.and_true, Bool.and_false, Bool.true_and, Bool.false_and, Bool.or_true, Bool.or_false, Bool.true_or, Bool.false_or, Bool.and_self, Bool.or_self, ↓reduceIte, Bool.false_eq_true, not_false_eq_true, not_true_eq_false] <;> rfl
  · skip
    refine lv_aload_n hx hb dX7_isAged_17 rfl (lv_at hl 5 rfl) ?_
    refine gf_Model_markOf X h (hL (30, 0, 0, 0) ⟨by decide, rfl, rfl, rfl⟩) q808 dX7_isAged_18 ?_
    refine lv_iload hx hb dX7_isAged_21 (lv_at hl 0 rfl) ?_
    refine y_ald X h (fun _ => rfl) (by decide) (hL (40, 0, 0, 0) ⟨by decide, rfl, rfl, rfl⟩) (by omega) (v := I (40, 0, 0, 0) i) rfl dX7_isAged_23 ?_
    refine lv_iload_n hx hb dX7_isAged_24 rfl (lv_at hl 3 rfl) ?_
    refine lv_icmp_ne (tgt := 77) hx hb dX7_isAged_25 (by decide) (fun c_25 => ?_) (fun c_25 => ?_)
    · skip
      have hcn : nI (agN I d e (i + 1)) = nI (agN I d e i) := by simp only [agN, cntN, mo, c_14, c_25, decide_true, decide_false, Bool.not_true, Bool.not_false, Bool.and_true, Bool.and_false, Bool.true_and, Bool.false_and, Bool.or_true, Bool.or_false, Bool.true_or, Bool.false_or, Bool.and_self, Bool.or_self, ↓reduceIte, Bool.false_eq_true, not_false_eq_true, not_true_eq_false] <;> rfl
      have hl : lv_has ls 6 [(5, .int (nI i)), (4, .int (bI (agC I d e i))), (3, .int (nI (agN I d e (i + 1)))), (2, .int (nI e)), (1, .int (nI d)), (0, .ref (ad (30, 0, 0, 0)))] := by rw [hcn]; exact hl
      have hcn : bI (agC I d e (i + 1)) = bI (agC I d e i) := by simp only [agC, agQ, mo, c_14, c_25, decide_true, decide_false, Bool.not_true, Bool.not_false, Bool.and_true, Bool.and_false, Bool.true_and, Bool.false_and, Bool.or_true, Bool.or_false, Bool.true_or, Bool.false_or, Bool.and_self, Bool.or_self, ↓reduceIte, Bool.false_eq_true, not_false_eq_true, not_true_eq_false] <;> rfl
      have hl : lv_has ls 6 [(5, .int (nI i)), (4, .int (bI (agC I d e (i + 1)))), (3, .int (nI (agN I d e (i + 1)))), (2, .int (nI e)), (1, .int (nI d)), (0, .ref (ad (30, 0, 0, 0)))] := by rw [hcn]; exact hl
      refine n_iinc (j := i) (n := 1) (lv' := [(5, .int (nI (i + 1))), (4, .int (bI (agC I d e (i + 1)))), (3, .int (nI (agN I d e (i + 1)))), (2, .int (nI e)), (1, .int (nI d)), (0, .ref (ad (30, 0, 0, 0)))]) hx hb dX7_isAged_77 hl (k := 0) rfl (by decide) (by decide) rfl (fun ls hl => ?_)
      refine lv_goto (tgt := 8) hx hb dX7_isAged_80 (by decide) ?_
      exact ih8 (i + 1) (by omega) (by omega) H locs ls (h.eq (congrArg (lay tc ad gm dz) rfl)) (lv_sub hl [0, 1, 2, 3, 4, 5] rfl)
    · skip
      refine lv_aload_n hx hb dX7_isAged_28 rfl (lv_at hl 5 rfl) ?_
      refine lv_iload_n hx hb dX7_isAged_29 rfl (lv_at hl 4 rfl) ?_
      refine lv_iload hx hb dX7_isAged_30 (lv_at hl 0 rfl) ?_
      refine x_doneI X h (x_runV X h (k := (30, 0, 0, 0)) (m_X7_isKnownMark I hL d i (by omega) (by omega) _) F_X7_isKnownMark q912 q914 q13 (hL (30, 0, 0, 0) ⟨by decide, rfl, rfl, rfl⟩) rfl rfl rfl (by decide) (by decide) ⟨Nat.le_refl _, Nat.le_refl _⟩ hl.1 (Nat.le_of_ble_eq_true rfl) dX7_isAged_32 rfl) (fun H locs h => ?_)
      refine b_if_eq (tgt := 77) hx hb dX7_isAged_35 (by decide) (fun c_35 => ?_) (fun c_35 => ?_)
      · skip
        have hcn : nI (agN I d e (i + 1)) = nI (agN I d e i) := by simp only [agN, cntN, mo, c_14, eq_true c_25, c_35, decide_true, decide_false, Bool.not_true, Bool.not_false, Bool.and_true, Bool.and_false, Bool.true_and, Bool.false_and, Bool.or_true, Bool.or_false, Bool.true_or, Bool.false_or, Bool.and_self, Bool.or_self, ↓reduceIte, Bool.false_eq_true, not_false_eq_true, not_true_eq_false] <;> rfl
        have hl : lv_has ls 6 [(5, .int (nI i)), (4, .int (bI (agC I d e i))), (3, .int (nI (agN I d e (i + 1)))), (2, .int (nI e)), (1, .int (nI d)), (0, .ref (ad (30, 0, 0, 0)))] := by rw [hcn]; exact hl
        have hcn : bI (agC I d e (i + 1)) = bI (agC I d e i) := by simp only [agC, agQ, mo, c_14, eq_true c_25, c_35, decide_true, decide_false, Bool.not_true, Bool.not_false, Bool.and_true, Bool.and_false, Bool.true_and, Bool.false_and, Bool.or_true, Bool.or_false, Bool.true_or, Bool.false_or, Bool.and_self, Bool.or_self, ↓reduceIte, Bool.false_eq_true, not_false_eq_true, not_true_eq_false] <;> rfl
        have hl : lv_has ls 6 [(5, .int (nI i)), (4, .int (bI (agC I d e (i + 1)))), (3, .int (nI (agN I d e (i + 1)))), (2, .int (nI e)), (1, .int (nI d)), (0, .ref (ad (30, 0, 0, 0)))] := by rw [hcn]; exact hl
        refine n_iinc (j := i) (n := 1) (lv' := [(5, .int (nI (i + 1))), (4, .int (bI (agC I d e (i + 1)))), (3, .int (nI (agN I d e (i + 1)))), (2, .int (nI e)), (1, .int (nI d)), (0, .ref (ad (30, 0, 0, 0)))]) hx hb dX7_isAged_77 hl (k := 0) rfl (by decide) (by decide) rfl (fun ls hl => ?_)
        refine lv_goto (tgt := 8) hx hb dX7_isAged_80 (by decide) ?_
        exact ih8 (i + 1) (by omega) (by omega) H locs ls (h.eq (congrArg (lay tc ad gm dz) rfl)) (lv_sub hl [0, 1, 2, 3, 4, 5] rfl)
      · skip
        refine n_iinc (j := (agN I d e i)) (n := 1) (lv' := [(3, .int (nI ((agN I d e i) + 1))), (5, .int (nI i)), (4, .int (bI (agC I d e i))), (2, .int (nI e)), (1, .int (nI d)), (0, .ref (ad (30, 0, 0, 0)))]) hx hb dX7_isAged_38 hl (k := 2) rfl (by decide) (by decide) rfl (fun ls hl => ?_)
        refine lv_iload hx hb dX7_isAged_41 (lv_at hl 2 rfl) ?_
        refine b_if_eq (tgt := 74) hx hb dX7_isAged_43 (by decide) (fun c_43 => ?_) (fun c_43 => ?_)
        · skip
          refine lv_iconst (v := nI 0) hx hb dX7_isAged_74 (by decide) ?_
          refine lv_istore (lv' := [(4, .int (nI 0)), (3, .int (nI ((agN I d e i) + 1))), (5, .int (nI i)), (2, .int (nI e)), (1, .int (nI d)), (0, .ref (ad (30, 0, 0, 0)))]) hx hb dX7_isAged_75 hl (by decide) rfl (fun ls hl => ?_)
          have hcn : nI (agN I d e (i + 1)) = nI ((agN I d e i) + 1) := by simp only [agN, cntN, mo, c_14, eq_true c_25, c_35, c_43, decide_true, decide_false, Bool.not_true, Bool.not_false, Bool.and_true, Bool.and_false, Bool.true_and, Bool.false_and, Bool.or_true, Bool.or_false, Bool.true_or, Bool.false_or, Bool.and_self, Bool.or_self, ↓reduceIte, Bool.false_eq_true, not_false_eq_true, not_true_eq_false] <;> rfl
          have hl : lv_has ls 6 [(4, .int (nI 0)), (3, .int (nI (agN I d e (i + 1)))), (5, .int (nI i)), (2, .int (nI e)), (1, .int (nI d)), (0, .ref (ad (30, 0, 0, 0)))] := by rw [hcn]; exact hl
          have hcn : bI (agC I d e (i + 1)) = nI 0 := by simp only [agC, agQ, mo, c_14, eq_true c_25, c_35, c_43, decide_true, decide_false, Bool.not_true, Bool.not_false, Bool.and_true, Bool.and_false, Bool.true_and, Bool.false_and, Bool.or_true, Bool.or_false, Bool.true_or, Bool.false_or, Bool.and_self, Bool.or_self, ↓reduceIte, Bool.false_eq_true, not_false_eq_true, not_true_eq_false] <;> rfl
          have hl : lv_has ls 6 [(4, .int (bI (agC I d e (i + 1)))), (3, .int (nI (agN I d e (i + 1)))), (5, .int (nI i)), (2, .int (nI e)), (1, .int (nI d)), (0, .ref (ad (30, 0, 0, 0)))] := by rw [hcn]; exact hl
          refine n_iinc (j := i) (n := 1) (lv' := [(5, .int (nI (i + 1))), (4, .int (bI (agC I d e (i + 1)))), (3, .int (nI (agN I d e (i + 1)))), (2, .int (nI e)), (1, .int (nI d)), (0, .ref (ad (30, 0, 0, 0)))]) hx hb dX7_isAged_77 hl (k := 2) rfl (by decide) (by decide) rfl (fun ls hl => ?_)
          refine lv_goto (tgt := 8) hx hb dX7_isAged_80 (by decide) ?_
          exact ih8 (i + 1) (by omega) (by omega) H locs ls (h.eq (congrArg (lay tc ad gm dz) rfl)) (lv_sub hl [0, 1, 2, 3, 4, 5] rfl)
        · skip
          refine lv_aload_n hx hb dX7_isAged_46 rfl (lv_at hl 5 rfl) ?_
          refine gf_Model_month X h (hL (30, 0, 0, 0) ⟨by decide, rfl, rfl, rfl⟩) q796 (v := I (30, 0, 0, 0) 0) rfl dX7_isAged_47 ?_
          refine lv_iconst (v := nI 1) hx hb dX7_isAged_50 (by decide) ?_
          refine lv_iadd hx hb dX7_isAged_51 ?_
          refine lv_aload_n hx hb dX7_isAged_52 rfl (lv_at hl 5 rfl) ?_
          refine gf_Model_since X h (hL (30, 0, 0, 0) ⟨by decide, rfl, rfl, rfl⟩) q810 dX7_isAged_53 ?_
          refine lv_bipush (v := nI 6) hx hb dX7_isAged_56 (by decide) ?_
          refine lv_iload hx hb dX7_isAged_58 (lv_at hl 1 rfl) ?_
          refine n_imul hx hb dX7_isAged_60 ?_
          refine lv_iload_n hx hb dX7_isAged_61 rfl (lv_at hl 4 rfl) ?_
          refine n_iadd hx hb dX7_isAged_62 ?_
          refine y_ald X h (fun _ => rfl) (by decide) (hL (42, 0, 0, 0) ⟨by decide, rfl, rfl, rfl⟩) (by omega) (v := I (42, 0, 0, 0) ((6 * i) + d)) rfl dX7_isAged_63 ?_
          refine lv_isub hx hb dX7_isAged_64 ?_
          refine lv_bipush (v := nI 12) hx hb dX7_isAged_65 (by decide) ?_
          refine lv_icmp_le (tgt := 74) hx hb dX7_isAged_67 (by decide) (fun c_67 => ?_) (fun c_67 => ?_)
          · skip
            refine lv_iconst (v := nI 0) hx hb dX7_isAged_74 (by decide) ?_
            refine lv_istore (lv' := [(4, .int (nI 0)), (3, .int (nI ((agN I d e i) + 1))), (5, .int (nI i)), (2, .int (nI e)), (1, .int (nI d)), (0, .ref (ad (30, 0, 0, 0)))]) hx hb dX7_isAged_75 hl (by decide) rfl (fun ls hl => ?_)
            have hcn : nI (agN I d e (i + 1)) = nI ((agN I d e i) + 1) := by simp only [agN, cntN, mo, c_14, eq_true c_25, c_35, c_43, c_67, decide_true, decide_false, Bool.not_true, Bool.not_false, Bool.and_true, Bool.and_false, Bool.true_and, Bool.false_and, Bool.or_true, Bool.or_false, Bool.true_or, Bool.false_or, Bool.and_self, Bool.or_self, ↓reduceIte, Bool.false_eq_true, not_false_eq_true, not_true_eq_false] <;> rfl
            have hl : lv_has ls 6 [(4, .int (nI 0)), (3, .int (nI (agN I d e (i + 1)))), (5, .int (nI i)), (2, .int (nI e)), (1, .int (nI d)), (0, .ref (ad (30, 0, 0, 0)))] := by rw [hcn]; exact hl
            have hcn : bI (agC I d e (i + 1)) = nI 0 := by simp only [agC, agQ, mo, c_14, eq_true c_25, c_35, c_43, c_67, decide_true, decide_false, Bool.not_true, Bool.not_false, Bool.and_true, Bool.and_false, Bool.true_and, Bool.false_and, Bool.or_true, Bool.or_false, Bool.true_or, Bool.false_or, Bool.and_self, Bool.or_self, ↓reduceIte, Bool.false_eq_true, not_false_eq_true, not_true_eq_false] <;> rfl
            have hl : lv_has ls 6 [(4, .int (bI (agC I d e (i + 1)))), (3, .int (nI (agN I d e (i + 1)))), (5, .int (nI i)), (2, .int (nI e)), (1, .int (nI d)), (0, .ref (ad (30, 0, 0, 0)))] := by rw [hcn]; exact hl
            refine n_iinc (j := i) (n := 1) (lv' := [(5, .int (nI (i + 1))), (4, .int (bI (agC I d e (i + 1)))), (3, .int (nI (agN I d e (i + 1)))), (2, .int (nI e)), (1, .int (nI d)), (0, .ref (ad (30, 0, 0, 0)))]) hx hb dX7_isAged_77 hl (k := 2) rfl (by decide) (by decide) rfl (fun ls hl => ?_)
            refine lv_goto (tgt := 8) hx hb dX7_isAged_80 (by decide) ?_
            exact ih8 (i + 1) (by omega) (by omega) H locs ls (h.eq (congrArg (lay tc ad gm dz) rfl)) (lv_sub hl [0, 1, 2, 3, 4, 5] rfl)
          · skip
            refine lv_iconst (v := nI 1) hx hb dX7_isAged_70 (by decide) ?_
            refine lv_goto (tgt := 75) hx hb dX7_isAged_71 (by decide) ?_
            refine lv_istore (lv' := [(4, .int (nI 1)), (3, .int (nI ((agN I d e i) + 1))), (5, .int (nI i)), (2, .int (nI e)), (1, .int (nI d)), (0, .ref (ad (30, 0, 0, 0)))]) hx hb dX7_isAged_75 hl (by decide) rfl (fun ls hl => ?_)
            have hcn : nI (agN I d e (i + 1)) = nI ((agN I d e i) + 1) := by simp only [agN, cntN, mo, c_14, eq_true c_25, c_35, c_43, c_67, decide_true, decide_false, Bool.not_true, Bool.not_false, Bool.and_true, Bool.and_false, Bool.true_and, Bool.false_and, Bool.or_true, Bool.or_false, Bool.true_or, Bool.false_or, Bool.and_self, Bool.or_self, ↓reduceIte, Bool.false_eq_true, not_false_eq_true, not_true_eq_false] <;> rfl
            have hl : lv_has ls 6 [(4, .int (nI 1)), (3, .int (nI (agN I d e (i + 1)))), (5, .int (nI i)), (2, .int (nI e)), (1, .int (nI d)), (0, .ref (ad (30, 0, 0, 0)))] := by rw [hcn]; exact hl
            have hcn : bI (agC I d e (i + 1)) = nI 1 := by simp only [agC, agQ, mo, c_14, eq_true c_25, c_35, c_43, c_67, decide_true, decide_false, Bool.not_true, Bool.not_false, Bool.and_true, Bool.and_false, Bool.true_and, Bool.false_and, Bool.or_true, Bool.or_false, Bool.true_or, Bool.false_or, Bool.and_self, Bool.or_self, ↓reduceIte, Bool.false_eq_true, not_false_eq_true, not_true_eq_false] <;> rfl
            have hl : lv_has ls 6 [(4, .int (bI (agC I d e (i + 1)))), (3, .int (nI (agN I d e (i + 1)))), (5, .int (nI i)), (2, .int (nI e)), (1, .int (nI d)), (0, .ref (ad (30, 0, 0, 0)))] := by rw [hcn]; exact hl
            refine n_iinc (j := i) (n := 1) (lv' := [(5, .int (nI (i + 1))), (4, .int (bI (agC I d e (i + 1)))), (3, .int (nI (agN I d e (i + 1)))), (2, .int (nI e)), (1, .int (nI d)), (0, .ref (ad (30, 0, 0, 0)))]) hx hb dX7_isAged_77 hl (k := 2) rfl (by decide) (by decide) rfl (fun ls hl => ?_)
            refine lv_goto (tgt := 8) hx hb dX7_isAged_80 (by decide) ?_
            exact ih8 (i + 1) (by omega) (by omega) H locs ls (h.eq (congrArg (lay tc ad gm dz) rfl)) (lv_sub hl [0, 1, 2, 3, 4, 5] rfl)

set_option maxHeartbeats 4000000 in
set_option maxRecDepth 100000 in
theorem m_X7_areSame {l : Launch} {D : va_G} {tc : TC} {dz : Nat} {ad : KN → Nat} {Ks : List KN} {gm : GM} (I : Mem) (hL : LV gm Ks) (d o e : Nat) (hd : d < 6) (ho : o < 6) (he : e < 10) (f : Nat) (hf : f < 4) : MI l yX7_areSame cX7_areSame 7 (Option.some ClassFile.FieldType.boolean) 1 D tc dz ad Ks (lay tc ad gm dz I) [.ref (ad (30, 0, 0, 0)), .int (nI d), .int (nI o), .int (nI e), .int (nI f)] (bI (samB I d o e f)) (lay tc ad gm dz I) := by
  intro sz
  refine x_ofW (by decide +kernel) (Nat.le_of_ble_eq_true rfl) (fun pp ee s mm bel meth cd ls X hr hin hz h hl => ?_)
  subst hz
  obtain ⟨hx, hb, hmaxL, hown, hts⟩ := id X.1
  have hl : lv_has ls 7 [(0, .ref (ad (30, 0, 0, 0))), (1, .int (nI d)), (2, .int (nI o)), (3, .int (nI e)), (4, .int (nI f))] := hl
  refine lv_iconst (v := nI 1) hx hb dX7_areSame_0 (by decide) ?_
  refine lv_istore (lv' := [(5, .int (nI 1)), (0, .ref (ad (30, 0, 0, 0))), (1, .int (nI d)), (2, .int (nI o)), (3, .int (nI e)), (4, .int (nI f))]) hx hb dX7_areSame_1 hl (by decide) rfl (fun ls hl => ?_)
  refine lv_iconst (v := nI 0) hx hb dX7_areSame_3 (by decide) ?_
  refine lv_istore (lv' := [(6, .int (nI 0)), (5, .int (nI 1)), (0, .ref (ad (30, 0, 0, 0))), (1, .int (nI d)), (2, .int (nI o)), (3, .int (nI e)), (4, .int (nI f))]) hx hb dX7_areSame_4 hl (by decide) rfl (fun ls hl => ?_)
  refine y_loop (D := D) (A := wA ad Ks s.heap.size) (ad := ad) (Ks := Ks) (nL := 7) (fun i : Nat => lay tc ad gm dz I) (fun i => [(6, .int (nI i)), (5, .int (bI (allB (samP I d o e f) i))), (4, .int (nI f)), (3, .int (nI e)), (2, .int (nI o)), (1, .int (nI d)), (0, .ref (ad (30, 0, 0, 0)))]) (fun _ => []) (fun i : Nat => i ≤ 6) (fun i => 6 - i) (fun i hi6 ih6 H locs ls h hl => ?_) 0 (Nat.zero_le _) (h.eq (congrArg (lay tc ad gm dz) rfl)) (lv_sub hl [0, 1, 6, 5, 4, 3, 2] rfl) rfl
  have h : Sx D (wA ad Ks s.heap.size) ad Ks (lay tc ad gm dz I) s H locs := h
  have hl : lv_has ls 7 [(6, .int (nI i)), (5, .int (bI (allB (samP I d o e f) i))), (4, .int (nI f)), (3, .int (nI e)), (2, .int (nI o)), (1, .int (nI d)), (0, .ref (ad (30, 0, 0, 0)))] := hl
  refine lv_iload hx hb dX7_areSame_6 (lv_at hl 0 rfl) ?_
  refine lv_bipush (v := nI 6) hx hb dX7_areSame_8 (by decide) ?_
  refine n_icmp_ge (tgt := 62) hx hb (by omega) (by omega) dX7_areSame_10 (by decide) (fun c_10 => ?_) (fun c_10 => ?_)
  · skip
    obtain rfl : i = 6 := by omega
    refine lv_iload hx hb dX7_areSame_62 (lv_at hl 1 rfl) ?_
    exact x_iret X h hr (bI_nar _) rfl (fun _ _ => rfl) dX7_areSame_64
  · skip
    refine lv_iload hx hb dX7_areSame_13 (lv_at hl 1 rfl) ?_
    refine b_if_eq (tgt := 53) hx hb dX7_areSame_15 (by decide) (fun c_15 => ?_) (fun c_15 => ?_)
    · skip
      refine lv_iconst (v := nI 0) hx hb dX7_areSame_53 (by decide) ?_
      refine lv_istore (lv' := [(5, .int (nI 0)), (6, .int (nI i)), (4, .int (nI f)), (3, .int (nI e)), (2, .int (nI o)), (1, .int (nI d)), (0, .ref (ad (30, 0, 0, 0)))]) hx hb dX7_areSame_54 hl (by decide) rfl (fun ls hl => ?_)
      have hcn : bI (allB (samP I d o e f) (i + 1)) = nI 0 := by simp only [allB, samP, c_10, c_15, decide_true, decide_false, Bool.not_true, Bool.not_false, Bool.and_true, Bool.and_false, Bool.true_and, Bool.false_and, Bool.or_true, Bool.or_false, Bool.true_or, Bool.false_or, Bool.and_self, Bool.or_self, ↓reduceIte, Bool.false_eq_true, not_false_eq_true, not_true_eq_false] <;> rfl
      have hl : lv_has ls 7 [(5, .int (bI (allB (samP I d o e f) (i + 1)))), (6, .int (nI i)), (4, .int (nI f)), (3, .int (nI e)), (2, .int (nI o)), (1, .int (nI d)), (0, .ref (ad (30, 0, 0, 0)))] := by rw [hcn]; exact hl
      refine n_iinc (j := i) (n := 1) (lv' := [(6, .int (nI (i + 1))), (5, .int (bI (allB (samP I d o e f) (i + 1)))), (4, .int (nI f)), (3, .int (nI e)), (2, .int (nI o)), (1, .int (nI d)), (0, .ref (ad (30, 0, 0, 0)))]) hx hb dX7_areSame_56 hl (k := 1) rfl (by decide) (by decide) rfl (fun ls hl => ?_)
      refine lv_goto (tgt := 6) hx hb dX7_areSame_59 (by decide) ?_
      exact ih6 (i + 1) (by omega) (by omega) H locs ls (h.eq (congrArg (lay tc ad gm dz) rfl)) (lv_sub hl [0, 1, 2, 3, 4, 5, 6] rfl)
    · skip
      refine lv_aload_n hx hb dX7_areSame_18 rfl (lv_at hl 6 rfl) ?_
      refine gf_Model_act X h (hL (30, 0, 0, 0) ⟨by decide, rfl, rfl, rfl⟩) q802 dX7_areSame_19 ?_
      refine lv_iload_n hx hb dX7_areSame_22 rfl (lv_at hl 5 rfl) ?_
      refine lv_iload_n hx hb dX7_areSame_23 rfl (lv_at hl 3 rfl) ?_
      refine lv_iload hx hb dX7_areSame_24 (lv_at hl 2 rfl) ?_
      refine lv_iload hx hb dX7_areSame_26 (lv_at hl 0 rfl) ?_
      refine x_doneI X h (x_runS X h (m_X7_place I d e f i _) F_X7_place q893 q894 rfl (by decide) (by decide) ⟨Nat.le_refl _, Nat.le_refl _⟩ hl.1 (Nat.le_of_ble_eq_true rfl) dX7_areSame_28 rfl) (fun H locs h => ?_)
      refine y_ald X h (fun _ => rfl) (by decide) (hL (35, 0, 0, 0) ⟨by decide, rfl, rfl, rfl⟩) (by omega) (v := I (35, 0, 0, 0) (24 * (10 * d + e) + 6 * f + i)) rfl dX7_areSame_31 ?_
      refine lv_aload_n hx hb dX7_areSame_32 rfl (lv_at hl 6 rfl) ?_
      refine gf_Model_act X h (hL (30, 0, 0, 0) ⟨by decide, rfl, rfl, rfl⟩) q802 dX7_areSame_33 ?_
      refine lv_iload_n hx hb dX7_areSame_36 rfl (lv_at hl 4 rfl) ?_
      refine lv_iload_n hx hb dX7_areSame_37 rfl (lv_at hl 3 rfl) ?_
      refine lv_iload hx hb dX7_areSame_38 (lv_at hl 2 rfl) ?_
      refine lv_iload hx hb dX7_areSame_40 (lv_at hl 0 rfl) ?_
      refine x_doneI X h (x_runS X h (m_X7_place I o e f i _) F_X7_place q893 q894 rfl (by decide) (by decide) ⟨Nat.le_refl _, Nat.le_refl _⟩ hl.1 (Nat.le_of_ble_eq_true rfl) dX7_areSame_42 rfl) (fun H locs h => ?_)
      refine y_ald X h (fun _ => rfl) (by decide) (hL (35, 0, 0, 0) ⟨by decide, rfl, rfl, rfl⟩) (by omega) (v := I (35, 0, 0, 0) (24 * (10 * o + e) + 6 * f + i)) rfl dX7_areSame_45 ?_
      refine lv_icmp_ne (tgt := 53) hx hb dX7_areSame_46 (by decide) (fun c_46 => ?_) (fun c_46 => ?_)
      · skip
        refine lv_iconst (v := nI 0) hx hb dX7_areSame_53 (by decide) ?_
        refine lv_istore (lv' := [(5, .int (nI 0)), (6, .int (nI i)), (4, .int (nI f)), (3, .int (nI e)), (2, .int (nI o)), (1, .int (nI d)), (0, .ref (ad (30, 0, 0, 0)))]) hx hb dX7_areSame_54 hl (by decide) rfl (fun ls hl => ?_)
        have hcn : bI (allB (samP I d o e f) (i + 1)) = nI 0 := by simp only [allB, samP, c_10, c_15, c_46, decide_true, decide_false, Bool.not_true, Bool.not_false, Bool.and_true, Bool.and_false, Bool.true_and, Bool.false_and, Bool.or_true, Bool.or_false, Bool.true_or, Bool.false_or, Bool.and_self, Bool.or_self, ↓reduceIte, Bool.false_eq_true, not_false_eq_true, not_true_eq_false] <;> rfl
        have hl : lv_has ls 7 [(5, .int (bI (allB (samP I d o e f) (i + 1)))), (6, .int (nI i)), (4, .int (nI f)), (3, .int (nI e)), (2, .int (nI o)), (1, .int (nI d)), (0, .ref (ad (30, 0, 0, 0)))] := by rw [hcn]; exact hl
        refine n_iinc (j := i) (n := 1) (lv' := [(6, .int (nI (i + 1))), (5, .int (bI (allB (samP I d o e f) (i + 1)))), (4, .int (nI f)), (3, .int (nI e)), (2, .int (nI o)), (1, .int (nI d)), (0, .ref (ad (30, 0, 0, 0)))]) hx hb dX7_areSame_56 hl (k := 1) rfl (by decide) (by decide) rfl (fun ls hl => ?_)
        refine lv_goto (tgt := 6) hx hb dX7_areSame_59 (by decide) ?_
        exact ih6 (i + 1) (by omega) (by omega) H locs ls (h.eq (congrArg (lay tc ad gm dz) rfl)) (lv_sub hl [0, 1, 2, 3, 4, 5, 6] rfl)
      · skip
        refine lv_iconst (v := nI 1) hx hb dX7_areSame_49 (by decide) ?_
        refine lv_goto (tgt := 54) hx hb dX7_areSame_50 (by decide) ?_
        refine lv_istore (lv' := [(5, .int (nI 1)), (6, .int (nI i)), (4, .int (nI f)), (3, .int (nI e)), (2, .int (nI o)), (1, .int (nI d)), (0, .ref (ad (30, 0, 0, 0)))]) hx hb dX7_areSame_54 hl (by decide) rfl (fun ls hl => ?_)
        have hcn : bI (allB (samP I d o e f) (i + 1)) = nI 1 := by simp only [allB, samP, c_10, c_15, eq_true c_46, decide_true, decide_false, Bool.not_true, Bool.not_false, Bool.and_true, Bool.and_false, Bool.true_and, Bool.false_and, Bool.or_true, Bool.or_false, Bool.true_or, Bool.false_or, Bool.and_self, Bool.or_self, ↓reduceIte, Bool.false_eq_true, not_false_eq_true, not_true_eq_false] <;> rfl
        have hl : lv_has ls 7 [(5, .int (bI (allB (samP I d o e f) (i + 1)))), (6, .int (nI i)), (4, .int (nI f)), (3, .int (nI e)), (2, .int (nI o)), (1, .int (nI d)), (0, .ref (ad (30, 0, 0, 0)))] := by rw [hcn]; exact hl
        refine n_iinc (j := i) (n := 1) (lv' := [(6, .int (nI (i + 1))), (5, .int (bI (allB (samP I d o e f) (i + 1)))), (4, .int (nI f)), (3, .int (nI e)), (2, .int (nI o)), (1, .int (nI d)), (0, .ref (ad (30, 0, 0, 0)))]) hx hb dX7_areSame_56 hl (k := 1) rfl (by decide) (by decide) rfl (fun ls hl => ?_)
        refine lv_goto (tgt := 6) hx hb dX7_areSame_59 (by decide) ?_
        exact ih6 (i + 1) (by omega) (by omega) H locs ls (h.eq (congrArg (lay tc ad gm dz) rfl)) (lv_sub hl [0, 1, 2, 3, 4, 5, 6] rfl)
