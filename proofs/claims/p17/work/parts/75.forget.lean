set_option maxHeartbeats 4000000 in
set_option maxRecDepth 100000 in
theorem m_L_forgets {l : Launch} {D : va_G} {tc : TC} {dz : Nat} {ad : KN → Nat} {Ks : List KN} {gm : GM} (Y : Mem) (hL : LV gm Ks) (hW : LW gm Ks) (hB : BR Y) (hT : TR Y) (n m t : Nat) (hN : NR Y n m t) (hn2 : n ≤ 2) (hm10 : m ≤ 10) (ht9 : t ≤ 2000) (d e : Nat) (hd : d < 6) (he : e < 2) : MV l yL_forgets cL_forgets 13 2 D tc dz ad Ks (lay tc ad gm dz (LL Y)) [.ref (ad (35, 0, 0, 0)), .ref (ad (37, 0, 0, 0)), .ref (ad (39, 0, 0, 0)), .ref (ad (43, 0, 0, 0)), .ref (ad (41, 0, 0, 0)), .ref (ad (42, 0, 0, 0)), .ref (ad (40, 0, 0, 0)), .ref (ad (45, 0, 0, 0)), .int (nI d), .int (nI e)] (lay tc ad gm dz (LL (mforM Y d e m))) := by
  intro sz
  have hg0 : LL Y (45, 0, 0, 0) 0 = nI n := gc_0.trans hN.1
  have hg1 : LL Y (45, 0, 0, 0) 1 = nI t := gc_1.trans hN.2.1
  have hg2 : LL Y (45, 0, 0, 0) 2 = nI m := gc_2.trans hN.2.2
  refine x_ofW (by decide +kernel) (Nat.le_of_ble_eq_true rfl) (fun pp ee s mm bel meth cd ls X hr hin hz h hl => ?_)
  subst hz
  obtain ⟨hx, hb, hmaxL, hown, hts⟩ := id X.1
  have hl : lv_has ls 13 [(0, .ref (ad (35, 0, 0, 0))), (1, .ref (ad (37, 0, 0, 0))), (2, .ref (ad (39, 0, 0, 0))), (3, .ref (ad (43, 0, 0, 0))), (4, .ref (ad (41, 0, 0, 0))), (5, .ref (ad (42, 0, 0, 0))), (6, .ref (ad (40, 0, 0, 0))), (7, .ref (ad (45, 0, 0, 0))), (8, .int (nI d)), (9, .int (nI e))] := hl
  refine lv_iconst (v := nI 0) hx hb dL_forgets_0 (by decide) ?_
  refine lv_istore (lv' := [(10, .int (nI 0)), (0, .ref (ad (35, 0, 0, 0))), (1, .ref (ad (37, 0, 0, 0))), (2, .ref (ad (39, 0, 0, 0))), (3, .ref (ad (43, 0, 0, 0))), (4, .ref (ad (41, 0, 0, 0))), (5, .ref (ad (42, 0, 0, 0))), (6, .ref (ad (40, 0, 0, 0))), (7, .ref (ad (45, 0, 0, 0))), (8, .int (nI d)), (9, .int (nI e))]) hx hb dL_forgets_1 hl (by decide) rfl (fun ls hl => ?_)
  refine y_loop (D := D) (A := wA ad Ks s.heap.size) (ad := ad) (Ks := Ks) (nL := 13) (fun f : Nat => lay tc ad gm dz (FM Y d e m f)) (fun f => [(10, .int (nI f)), (0, .ref (ad (35, 0, 0, 0))), (1, .ref (ad (37, 0, 0, 0))), (2, .ref (ad (39, 0, 0, 0))), (3, .ref (ad (43, 0, 0, 0))), (4, .ref (ad (41, 0, 0, 0))), (5, .ref (ad (42, 0, 0, 0))), (6, .ref (ad (40, 0, 0, 0))), (7, .ref (ad (45, 0, 0, 0))), (8, .int (nI d)), (9, .int (nI e))]) (fun _ => []) (fun f : Nat => f ≤ 4) (fun f => 4 - f) (fun f hi3 ih3 H locs ls h hl => ?_) 0 (Nat.zero_le _) (h.eq (congrArg (lay tc ad gm dz) (FM_0 Y d e m))) (lv_sub hl [0, 1, 2, 3, 4, 5, 6, 7, 8, 9, 10] rfl) rfl
  have h : Sx D (wA ad Ks s.heap.size) ad Ks (lay tc ad gm dz (FM Y d e m f)) s H locs := h
  have hl : lv_has ls 13 [(10, .int (nI f)), (0, .ref (ad (35, 0, 0, 0))), (1, .ref (ad (37, 0, 0, 0))), (2, .ref (ad (39, 0, 0, 0))), (3, .ref (ad (43, 0, 0, 0))), (4, .ref (ad (41, 0, 0, 0))), (5, .ref (ad (42, 0, 0, 0))), (6, .ref (ad (40, 0, 0, 0))), (7, .ref (ad (45, 0, 0, 0))), (8, .int (nI d)), (9, .int (nI e))] := hl
  refine lv_iload hx hb dL_forgets_3 (lv_at hl 0 rfl) ?_
  refine lv_iconst (v := nI 4) hx hb dL_forgets_5 (by decide) ?_
  refine n_icmp_ge (tgt := 121) hx hb (by omega) (by omega) dL_forgets_6 (by decide) (fun c_6 => ?_) (fun c_6 => ?_)
  · skip
    have him : f = 4 := by omega
    rw [him] at h
    refine lv_iconst (v := nI 0) hx hb dL_forgets_121 (by decide) ?_
    refine lv_istore (lv' := [(10, .int (nI 0)), (0, .ref (ad (35, 0, 0, 0))), (1, .ref (ad (37, 0, 0, 0))), (2, .ref (ad (39, 0, 0, 0))), (3, .ref (ad (43, 0, 0, 0))), (4, .ref (ad (41, 0, 0, 0))), (5, .ref (ad (42, 0, 0, 0))), (6, .ref (ad (40, 0, 0, 0))), (7, .ref (ad (45, 0, 0, 0))), (8, .int (nI d)), (9, .int (nI e))]) hx hb dL_forgets_122 hl (by decide) rfl (fun ls hl => ?_)
    refine y_loop (D := D) (A := wA ad Ks s.heap.size) (ad := ad) (Ks := Ks) (nL := 13) (fun i : Nat => lay tc ad gm dz (H2 Y d e m i)) (fun i => [(10, .int (nI i)), (0, .ref (ad (35, 0, 0, 0))), (1, .ref (ad (37, 0, 0, 0))), (2, .ref (ad (39, 0, 0, 0))), (3, .ref (ad (43, 0, 0, 0))), (4, .ref (ad (41, 0, 0, 0))), (5, .ref (ad (42, 0, 0, 0))), (6, .ref (ad (40, 0, 0, 0))), (7, .ref (ad (45, 0, 0, 0))), (8, .int (nI d)), (9, .int (nI e))]) (fun _ => []) (fun i : Nat => i ≤ m) (fun i => m - i) (fun i hi124 ih124 H locs ls h hl => ?_) 0 (Nat.zero_le _) (h.eq (congrArg (lay tc ad gm dz) (H2_0 Y d e m))) (lv_sub hl [0, 1, 2, 3, 4, 5, 6, 7, 8, 9, 10] rfl) rfl
    have h : Sx D (wA ad Ks s.heap.size) ad Ks (lay tc ad gm dz (H2 Y d e m i)) s H locs := h
    have hl : lv_has ls 13 [(10, .int (nI i)), (0, .ref (ad (35, 0, 0, 0))), (1, .ref (ad (37, 0, 0, 0))), (2, .ref (ad (39, 0, 0, 0))), (3, .ref (ad (43, 0, 0, 0))), (4, .ref (ad (41, 0, 0, 0))), (5, .ref (ad (42, 0, 0, 0))), (6, .ref (ad (40, 0, 0, 0))), (7, .ref (ad (45, 0, 0, 0))), (8, .int (nI d)), (9, .int (nI e))] := hl
    refine lv_iload hx hb dL_forgets_124 (lv_at hl 0 rfl) ?_
    refine lv_aload hx hb dL_forgets_126 (lv_at hl 8 rfl) ?_
    refine lv_iconst (v := nI 2) hx hb dL_forgets_128 (by decide) ?_
    refine y_ald X h (fun _ => rfl) (by decide) (hL (45, 0, 0, 0) ⟨by decide, rfl, rfl, rfl⟩) (by omega) (v := nI m) ((congrFun ((H2_see (by decide)).trans ((FM_see (by decide) (by decide) (by decide)))) 2).trans hg2) dL_forgets_129 ?_
    refine n_icmp_ge (tgt := 175) hx hb (by omega) (by omega) dL_forgets_130 (by decide) (fun c_130 => ?_) (fun c_130 => ?_)
    · skip
      have him : i = m := by omega
      rw [him] at h
      refine lv_aload_n hx hb dL_forgets_175 rfl (lv_at hl 4 rfl) ?_
      refine lv_iconst (v := nI 2) hx hb dL_forgets_176 (by decide) ?_
      refine lv_iload hx hb dL_forgets_177 (lv_at hl 9 rfl) ?_
      refine n_imul hx hb dL_forgets_179 ?_
      refine lv_iload hx hb dL_forgets_180 (lv_at hl 10 rfl) ?_
      refine n_iadd hx hb dL_forgets_182 ?_
      refine lv_iconst (v := nI 2) hx hb dL_forgets_183 (by decide) ?_
      refine y_ast X h (fun _ => rfl) (by decide) (hL (43, 0, 0, 0) ⟨by decide, rfl, rfl, rfl⟩) (by omega) dL_forgets_184 (fun H locs h => ?_)
      have h := h.law hW (for_LAe hd he)
      exact x_vret X h hr (fun _ _ => rfl) dL_forgets_185
    · skip
      refine lv_aload hx hb dL_forgets_133 (lv_at hl 6 rfl) ?_
      refine lv_bipush (v := nI 6) hx hb dL_forgets_135 (by decide) ?_
      refine lv_iload hx hb dL_forgets_137 (lv_at hl 0 rfl) ?_
      refine n_imul hx hb dL_forgets_139 ?_
      refine lv_iload hx hb dL_forgets_140 (lv_at hl 9 rfl) ?_
      refine n_iadd hx hb dL_forgets_142 ?_
      refine lv_aload hx hb dL_forgets_143 (lv_at hl 7 rfl) ?_
      refine lv_iload hx hb dL_forgets_145 (lv_at hl 0 rfl) ?_
      refine y_ald X h (fun _ => rfl) (by decide) (hL (40, 0, 0, 0) ⟨by decide, rfl, rfl, rfl⟩) (by omega) (v := Y (40, 0, 0, 0) i) (congrFun ((H2_see (by decide)).trans ((FM_see (by decide) (by decide) (by decide)).trans (LL_see (by decide)))) _) dL_forgets_147 ?_
      refine lv_iload hx hb dL_forgets_148 (lv_at hl 10 rfl) ?_
      refine lv_icmp_ne (tgt := 157) hx hb dL_forgets_150 (by decide) (fun c_150 => ?_) (fun c_150 => ?_)
      · skip
        refine lv_aload hx hb dL_forgets_157 (lv_at hl 6 rfl) ?_
        refine lv_bipush (v := nI 6) hx hb dL_forgets_159 (by decide) ?_
        refine lv_iload hx hb dL_forgets_161 (lv_at hl 0 rfl) ?_
        refine n_imul hx hb dL_forgets_163 ?_
        refine lv_iload hx hb dL_forgets_164 (lv_at hl 9 rfl) ?_
        refine n_iadd hx hb dL_forgets_166 ?_
        refine y_ald X h (fun _ => rfl) (by decide) (hL (42, 0, 0, 0) ⟨by decide, rfl, rfl, rfl⟩) (by omega) (v := mfS Y d e i (6 * i + d)) (congrFun H2_42 _) dL_forgets_167 ?_
        refine y_ast X h (fun _ => rfl) (by decide) (hL (42, 0, 0, 0) ⟨by decide, rfl, rfl, rfl⟩) (by omega) dL_forgets_168 (fun H locs h => ?_)
        have h := h.eq (congrArg (lay tc ad gm dz) (show (sset (H2 Y d e m i) (42, 0, 0, 0) (upd ((H2 Y d e m i) (42, 0, 0, 0)) ((6 * i) + d) (mfS Y d e i (6 * i + d)))) = (H2 Y d e m (i + 1)) from (H2_s (mfS_n (mo_f c_150) rfl))))
        refine n_iinc (j := i) (n := 1) (lv' := [(10, .int (nI (i + 1))), (0, .ref (ad (35, 0, 0, 0))), (1, .ref (ad (37, 0, 0, 0))), (2, .ref (ad (39, 0, 0, 0))), (3, .ref (ad (43, 0, 0, 0))), (4, .ref (ad (41, 0, 0, 0))), (5, .ref (ad (42, 0, 0, 0))), (6, .ref (ad (40, 0, 0, 0))), (7, .ref (ad (45, 0, 0, 0))), (8, .int (nI d)), (9, .int (nI e))]) hx hb dL_forgets_169 hl (k := 0) rfl (by decide) (by decide) rfl (fun ls hl => ?_)
        refine lv_goto (tgt := 124) hx hb dL_forgets_172 (by decide) ?_
        exact ih124 (i + 1) (by omega) (by omega) H locs ls (h.eq (congrArg (lay tc ad gm dz) rfl)) (lv_sub hl [0, 1, 2, 3, 4, 5, 6, 7, 8, 9, 10] rfl)
      · skip
        refine lv_iconst (v := nI 0) hx hb dL_forgets_153 (by decide) ?_
        refine lv_goto (tgt := 168) hx hb dL_forgets_154 (by decide) ?_
        refine y_ast X h (fun _ => rfl) (by decide) (hL (42, 0, 0, 0) ⟨by decide, rfl, rfl, rfl⟩) (by omega) dL_forgets_168 (fun H locs h => ?_)
        have h := h.eq (congrArg (lay tc ad gm dz) (show (sset (H2 Y d e m i) (42, 0, 0, 0) (upd ((H2 Y d e m i) (42, 0, 0, 0)) ((6 * i) + d) (nI 0))) = (H2 Y d e m (i + 1)) from (H2_s (mfS_y hT hd (mo_t c_150)))))
        refine n_iinc (j := i) (n := 1) (lv' := [(10, .int (nI (i + 1))), (0, .ref (ad (35, 0, 0, 0))), (1, .ref (ad (37, 0, 0, 0))), (2, .ref (ad (39, 0, 0, 0))), (3, .ref (ad (43, 0, 0, 0))), (4, .ref (ad (41, 0, 0, 0))), (5, .ref (ad (42, 0, 0, 0))), (6, .ref (ad (40, 0, 0, 0))), (7, .ref (ad (45, 0, 0, 0))), (8, .int (nI d)), (9, .int (nI e))]) hx hb dL_forgets_169 hl (k := 0) rfl (by decide) (by decide) rfl (fun ls hl => ?_)
        refine lv_goto (tgt := 124) hx hb dL_forgets_172 (by decide) ?_
        exact ih124 (i + 1) (by omega) (by omega) H locs ls (h.eq (congrArg (lay tc ad gm dz) rfl)) (lv_sub hl [0, 1, 2, 3, 4, 5, 6, 7, 8, 9, 10] rfl)
  · skip
    refine lv_iload hx hb dL_forgets_9 (lv_at hl 9 rfl) ?_
    refine lv_iload hx hb dL_forgets_11 (lv_at hl 10 rfl) ?_
    refine lv_iload hx hb dL_forgets_13 (lv_at hl 0 rfl) ?_
    refine x_doneI X h (x_runS X h (m_L_at (FM Y d e m f) d e f _) F_L_at q744 q745 rfl (by decide) (by decide) ⟨Nat.le_refl _, Nat.le_refl _⟩ hl.1 (Nat.le_of_ble_eq_true rfl) dL_forgets_15 rfl) (fun H locs h => ?_)
    refine lv_istore (lv' := [(11, .int (nI (8 * d + 4 * e + f))), (10, .int (nI f)), (0, .ref (ad (35, 0, 0, 0))), (1, .ref (ad (37, 0, 0, 0))), (2, .ref (ad (39, 0, 0, 0))), (3, .ref (ad (43, 0, 0, 0))), (4, .ref (ad (41, 0, 0, 0))), (5, .ref (ad (42, 0, 0, 0))), (6, .ref (ad (40, 0, 0, 0))), (7, .ref (ad (45, 0, 0, 0))), (8, .int (nI d)), (9, .int (nI e))]) hx hb dL_forgets_18 hl (by decide) rfl (fun ls hl => ?_)
    refine lv_aload_n hx hb dL_forgets_20 rfl (lv_at hl 4 rfl) ?_
    refine lv_iload hx hb dL_forgets_21 (lv_at hl 0 rfl) ?_
    refine lv_aload_n hx hb dL_forgets_23 rfl (lv_at hl 4 rfl) ?_
    refine lv_iload hx hb dL_forgets_24 (lv_at hl 0 rfl) ?_
    refine z_lald X h pkB (fun _ => rfl) (by decide) (hL (39, 0, 0, 0) ⟨by decide, rfl, rfl, rfl⟩) (by omega) (v := pk (rw6 (Y (39, 0, 0, 0)) (24 * (10 * d + e) + 6 * f))) ((pkB_at (by omega) (by omega)).trans (lp_congr (fun k hk => by rw [FM_39]; exact rf_out (by omega)))) dL_forgets_26 ?_
    refine lv_aload_n hx hb dL_forgets_27 rfl (lv_at hl 3 rfl) ?_
    refine lv_iload hx hb dL_forgets_28 (lv_at hl 0 rfl) ?_
    refine z_lald X h pkB (fun _ => rfl) (by decide) (hL (37, 0, 0, 0) ⟨by decide, rfl, rfl, rfl⟩) (by omega) (v := pk (rw6 (Y (37, 0, 0, 0)) (24 * (10 * d + e) + 6 * f))) ((pkB_at (by omega) (by omega)).trans (lp_congr (fun k hk => by rw [FM_37]; exact rf_out (by omega)))) dL_forgets_30 ?_
    refine x_doneL X h (x_runS X h (m_L_greater (FM Y d e m f) (rw6 (Y (39, 0, 0, 0)) (24 * (10 * d + e) + 6 * f)) (rw6 (Y (37, 0, 0, 0)) (24 * (10 * d + e) + 6 * f)) (fun _ _ => hB.2.2.1 _) (fun _ _ => hB.2.1 _) _) F_L_greater q772 q773 rfl (by decide) (by decide) ⟨Nat.le_refl _, Nat.le_refl _⟩ hl.1 (Nat.le_of_ble_eq_true rfl) dL_forgets_31 rfl) (fun H locs h => ?_)
    refine z_last X h pkB (fun _ => rfl) (by decide) (hL (39, 0, 0, 0) ⟨by decide, rfl, rfl, rfl⟩) (by omega) (st6 ((FM Y d e m f) (39, 0, 0, 0)) (24 * (10 * d + e) + 6 * f) (gM (rw6 (Y (39, 0, 0, 0)) (24 * (10 * d + e) + 6 * f)) (rw6 (Y (37, 0, 0, 0)) (24 * (10 * d + e) + 6 * f)))) (lastB (by omega) (by omega)) dL_forgets_34 (fun H locs h => ?_)
    have h := h.eq (congrArg (lay tc ad gm dz) (show (sset (FM Y d e m f) (39, 0, 0, 0) (st6 ((FM Y d e m f) (39, 0, 0, 0)) (24 * (10 * d + e) + 6 * f) (gM (rw6 (Y (39, 0, 0, 0)) (24 * (10 * d + e) + 6 * f)) (rw6 (Y (37, 0, 0, 0)) (24 * (10 * d + e) + 6 * f))))) = (GMj Y d e m f 0) from (GMj_0 (fun k hk => (mfN_0 (by omega) hk).symm))))
    refine lv_iconst (v := nI 0) hx hb dL_forgets_35 (by decide) ?_
    refine lv_istore (lv' := [(12, .int (nI 0)), (11, .int (nI (8 * d + 4 * e + f))), (10, .int (nI f)), (0, .ref (ad (35, 0, 0, 0))), (1, .ref (ad (37, 0, 0, 0))), (2, .ref (ad (39, 0, 0, 0))), (3, .ref (ad (43, 0, 0, 0))), (4, .ref (ad (41, 0, 0, 0))), (5, .ref (ad (42, 0, 0, 0))), (6, .ref (ad (40, 0, 0, 0))), (7, .ref (ad (45, 0, 0, 0))), (8, .int (nI d)), (9, .int (nI e))]) hx hb dL_forgets_36 hl (by decide) rfl (fun ls hl => ?_)
    refine y_loop (D := D) (A := wA ad Ks s.heap.size) (ad := ad) (Ks := Ks) (nL := 13) (fun j : Nat => lay tc ad gm dz (GMj Y d e m f j)) (fun j => [(12, .int (nI j)), (11, .int (nI (8 * d + 4 * e + f))), (10, .int (nI f)), (0, .ref (ad (35, 0, 0, 0))), (1, .ref (ad (37, 0, 0, 0))), (2, .ref (ad (39, 0, 0, 0))), (3, .ref (ad (43, 0, 0, 0))), (4, .ref (ad (41, 0, 0, 0))), (5, .ref (ad (42, 0, 0, 0))), (6, .ref (ad (40, 0, 0, 0))), (7, .ref (ad (45, 0, 0, 0))), (8, .int (nI d)), (9, .int (nI e))]) (fun _ => []) (fun j : Nat => j ≤ m) (fun j => m - j) (fun j hi38 ih38 H locs ls h hl => ?_) 0 (Nat.zero_le _) (h.eq (congrArg (lay tc ad gm dz) rfl)) (lv_sub hl [0, 1, 2, 3, 4, 5, 6, 7, 8, 9, 10, 11, 12] rfl) rfl
    have h : Sx D (wA ad Ks s.heap.size) ad Ks (lay tc ad gm dz (GMj Y d e m f j)) s H locs := h
    have hl : lv_has ls 13 [(12, .int (nI j)), (11, .int (nI (8 * d + 4 * e + f))), (10, .int (nI f)), (0, .ref (ad (35, 0, 0, 0))), (1, .ref (ad (37, 0, 0, 0))), (2, .ref (ad (39, 0, 0, 0))), (3, .ref (ad (43, 0, 0, 0))), (4, .ref (ad (41, 0, 0, 0))), (5, .ref (ad (42, 0, 0, 0))), (6, .ref (ad (40, 0, 0, 0))), (7, .ref (ad (45, 0, 0, 0))), (8, .int (nI d)), (9, .int (nI e))] := hl
    refine lv_iload hx hb dL_forgets_38 (lv_at hl 0 rfl) ?_
    refine lv_aload hx hb dL_forgets_40 (lv_at hl 10 rfl) ?_
    refine lv_iconst (v := nI 2) hx hb dL_forgets_42 (by decide) ?_
    refine y_ald X h (fun _ => rfl) (by decide) (hL (45, 0, 0, 0) ⟨by decide, rfl, rfl, rfl⟩) (by omega) (v := nI m) ((congrFun ((GMj_see (by decide)).trans ((FM_see (by decide) (by decide) (by decide)))) 2).trans hg2) dL_forgets_43 ?_
    refine n_icmp_ge (tgt := 105) hx hb (by omega) (by omega) dL_forgets_44 (by decide) (fun c_44 => ?_) (fun c_44 => ?_)
    · skip
      have him : j = m := by omega
      rw [him] at h
      refine lv_aload_n hx hb dL_forgets_105 rfl (lv_at hl 3 rfl) ?_
      refine lv_iload hx hb dL_forgets_106 (lv_at hl 1 rfl) ?_
      refine lv_lconst (v := pk z0) hx hb dL_forgets_108 lp_zero.symm ?_
      refine z_last X h pkB (fun _ => rfl) (by decide) (hL (35, 0, 0, 0) ⟨by decide, rfl, rfl, rfl⟩) (by omega) (st6 ((GMj Y d e m f m) (35, 0, 0, 0)) (24 * (10 * d + e) + 6 * f) z0) (lastB (by omega) (by omega)) dL_forgets_109 (fun H locs h => ?_)
      refine lv_aload_n hx hb dL_forgets_110 rfl (lv_at hl 4 rfl) ?_
      refine lv_iload hx hb dL_forgets_111 (lv_at hl 1 rfl) ?_
      refine lv_lconst (v := pk z0) hx hb dL_forgets_113 lp_zero.symm ?_
      refine z_last X h pkB (fun _ => rfl) (by decide) (hL (37, 0, 0, 0) ⟨by decide, rfl, rfl, rfl⟩) (by omega) (st6 ((sset (GMj Y d e m f m) (35, 0, 0, 0) (st6 ((GMj Y d e m f m) (35, 0, 0, 0)) (24 * (10 * d + e) + 6 * f) z0)) (37, 0, 0, 0)) (24 * (10 * d + e) + 6 * f) z0) (lastB (by omega) (by omega)) dL_forgets_114 (fun H locs h => ?_)
      have h := h.eq (congrArg (lay tc ad gm dz) (show (sset (sset (GMj Y d e m f m) (35, 0, 0, 0) (st6 ((GMj Y d e m f m) (35, 0, 0, 0)) (24 * (10 * d + e) + 6 * f) z0)) (37, 0, 0, 0) (st6 ((sset (GMj Y d e m f m) (35, 0, 0, 0) (st6 ((GMj Y d e m f m) (35, 0, 0, 0)) (24 * (10 * d + e) + 6 * f) z0)) (37, 0, 0, 0)) (24 * (10 * d + e) + 6 * f) z0)) = (FM Y d e m (f + 1)) from FM_s))
      refine n_iinc (j := f) (n := 1) (lv' := [(10, .int (nI (f + 1))), (12, .int (nI j)), (11, .int (nI (8 * d + 4 * e + f))), (0, .ref (ad (35, 0, 0, 0))), (1, .ref (ad (37, 0, 0, 0))), (2, .ref (ad (39, 0, 0, 0))), (3, .ref (ad (43, 0, 0, 0))), (4, .ref (ad (41, 0, 0, 0))), (5, .ref (ad (42, 0, 0, 0))), (6, .ref (ad (40, 0, 0, 0))), (7, .ref (ad (45, 0, 0, 0))), (8, .int (nI d)), (9, .int (nI e))]) hx hb dL_forgets_115 hl (k := 2) rfl (by decide) (by decide) rfl (fun ls hl => ?_)
      refine lv_goto (tgt := 3) hx hb dL_forgets_118 (by decide) ?_
      exact ih3 (f + 1) (by omega) (by omega) H locs ls (h.eq (congrArg (lay tc ad gm dz) rfl)) (lv_sub hl [0, 3, 4, 5, 6, 7, 8, 9, 10, 11, 12] rfl)
    · skip
      refine lv_aload_n hx hb dL_forgets_47 rfl (lv_at hl 5 rfl) ?_
      refine lv_iload hx hb dL_forgets_48 (lv_at hl 1 rfl) ?_
      refine lv_aload hx hb dL_forgets_50 (lv_at hl 9 rfl) ?_
      refine lv_iload hx hb dL_forgets_52 (lv_at hl 0 rfl) ?_
      refine y_ald X h (fun _ => rfl) (by decide) (hL (40, 0, 0, 0) ⟨by decide, rfl, rfl, rfl⟩) (by omega) (v := Y (40, 0, 0, 0) j) (congrFun ((GMj_see (by decide)).trans ((FM_see (by decide) (by decide) (by decide)).trans (LL_see (by decide)))) _) dL_forgets_54 ?_
      refine lv_iload hx hb dL_forgets_55 (lv_at hl 12 rfl) ?_
      refine lv_icmp_ne (tgt := 94) hx hb dL_forgets_57 (by decide) (fun c_57 => ?_) (fun c_57 => ?_)
      · skip
        refine lv_aload_n hx hb dL_forgets_94 rfl (lv_at hl 5 rfl) ?_
        refine lv_iload hx hb dL_forgets_95 (lv_at hl 1 rfl) ?_
        refine z_lald X h pkB (fun _ => rfl) (by decide) (hL (39, 0, 0, 0) ⟨by decide, rfl, rfl, rfl⟩) (by omega) (v := pk (fun k => mfN Y d e j (24 * (10 * d + e) + 6 * f + k))) ((pkB_at (by omega) (by omega)).trans (lp_congr (fun k hk => by rw [GMj_39]; exact st6_in hk))) dL_forgets_97 ?_
        refine z_last X h pkB (fun _ => rfl) (by decide) (hL (39, 0, 0, 0) ⟨by decide, rfl, rfl, rfl⟩) (by omega) (st6 ((GMj Y d e m f j) (39, 0, 0, 0)) (24 * (10 * d + e) + 6 * f) (fun k => mfN Y d e j (24 * (10 * d + e) + 6 * f + k))) (lastB (by omega) (by omega)) dL_forgets_98 (fun H locs h => ?_)
        have h := h.eq (congrArg (lay tc ad gm dz) (show (sset (GMj Y d e m f j) (39, 0, 0, 0) (st6 ((GMj Y d e m f j) (39, 0, 0, 0)) (24 * (10 * d + e) + 6 * f) (fun k => mfN Y d e j (24 * (10 * d + e) + 6 * f + k)))) = (GMj Y d e m f (j + 1)) from (GMj_s (fun k hk => by rw [mfN_n (Or.inl (mo_f c_57))]))))
        refine n_iinc (j := j) (n := 1) (lv' := [(12, .int (nI (j + 1))), (11, .int (nI (8 * d + 4 * e + f))), (10, .int (nI f)), (0, .ref (ad (35, 0, 0, 0))), (1, .ref (ad (37, 0, 0, 0))), (2, .ref (ad (39, 0, 0, 0))), (3, .ref (ad (43, 0, 0, 0))), (4, .ref (ad (41, 0, 0, 0))), (5, .ref (ad (42, 0, 0, 0))), (6, .ref (ad (40, 0, 0, 0))), (7, .ref (ad (45, 0, 0, 0))), (8, .int (nI d)), (9, .int (nI e))]) hx hb dL_forgets_99 hl (k := 0) rfl (by decide) (by decide) rfl (fun ls hl => ?_)
        refine lv_goto (tgt := 38) hx hb dL_forgets_102 (by decide) ?_
        exact ih38 (j + 1) (by omega) (by omega) H locs ls (h.eq (congrArg (lay tc ad gm dz) rfl)) (lv_sub hl [0, 1, 2, 3, 4, 5, 6, 7, 8, 9, 10, 11, 12] rfl)
      · skip
        refine lv_aload hx hb dL_forgets_60 (lv_at hl 8 rfl) ?_
        refine lv_bipush (v := nI 6) hx hb dL_forgets_62 (by decide) ?_
        refine lv_iload hx hb dL_forgets_64 (lv_at hl 0 rfl) ?_
        refine n_imul hx hb dL_forgets_66 ?_
        refine lv_iload hx hb dL_forgets_67 (lv_at hl 11 rfl) ?_
        refine n_iadd hx hb dL_forgets_69 ?_
        refine y_ald X h (fun _ => rfl) (by decide) (hL (42, 0, 0, 0) ⟨by decide, rfl, rfl, rfl⟩) (by omega) (v := Y (42, 0, 0, 0) (6 * j + d)) (congrFun ((GMj_see (by decide)).trans ((FM_see (by decide) (by decide) (by decide)).trans (LL_see (by decide)))) _) dL_forgets_70 ?_
        refine lv_if_le (tgt := 94) hx hb dL_forgets_71 (by decide) (fun c_71 => ?_) (fun c_71 => ?_)
        · skip
          refine lv_aload_n hx hb dL_forgets_94 rfl (lv_at hl 5 rfl) ?_
          refine lv_iload hx hb dL_forgets_95 (lv_at hl 1 rfl) ?_
          refine z_lald X h pkB (fun _ => rfl) (by decide) (hL (39, 0, 0, 0) ⟨by decide, rfl, rfl, rfl⟩) (by omega) (v := pk (fun k => mfN Y d e j (24 * (10 * d + e) + 6 * f + k))) ((pkB_at (by omega) (by omega)).trans (lp_congr (fun k hk => by rw [GMj_39]; exact st6_in hk))) dL_forgets_97 ?_
          refine z_last X h pkB (fun _ => rfl) (by decide) (hL (39, 0, 0, 0) ⟨by decide, rfl, rfl, rfl⟩) (by omega) (st6 ((GMj Y d e m f j) (39, 0, 0, 0)) (24 * (10 * d + e) + 6 * f) (fun k => mfN Y d e j (24 * (10 * d + e) + 6 * f + k))) (lastB (by omega) (by omega)) dL_forgets_98 (fun H locs h => ?_)
          have h := h.eq (congrArg (lay tc ad gm dz) (show (sset (GMj Y d e m f j) (39, 0, 0, 0) (st6 ((GMj Y d e m f j) (39, 0, 0, 0)) (24 * (10 * d + e) + 6 * f) (fun k => mfN Y d e j (24 * (10 * d + e) + 6 * f + k)))) = (GMj Y d e m f (j + 1)) from (GMj_s (fun k hk => by rw [mfN_n (Or.inr (kmk_f c_71))]))))
          refine n_iinc (j := j) (n := 1) (lv' := [(12, .int (nI (j + 1))), (11, .int (nI (8 * d + 4 * e + f))), (10, .int (nI f)), (0, .ref (ad (35, 0, 0, 0))), (1, .ref (ad (37, 0, 0, 0))), (2, .ref (ad (39, 0, 0, 0))), (3, .ref (ad (43, 0, 0, 0))), (4, .ref (ad (41, 0, 0, 0))), (5, .ref (ad (42, 0, 0, 0))), (6, .ref (ad (40, 0, 0, 0))), (7, .ref (ad (45, 0, 0, 0))), (8, .int (nI d)), (9, .int (nI e))]) hx hb dL_forgets_99 hl (k := 0) rfl (by decide) (by decide) rfl (fun ls hl => ?_)
          refine lv_goto (tgt := 38) hx hb dL_forgets_102 (by decide) ?_
          exact ih38 (j + 1) (by omega) (by omega) H locs ls (h.eq (congrArg (lay tc ad gm dz) rfl)) (lv_sub hl [0, 1, 2, 3, 4, 5, 6, 7, 8, 9, 10, 11, 12] rfl)
        · skip
          refine lv_aload_n hx hb dL_forgets_74 rfl (lv_at hl 5 rfl) ?_
          refine lv_iload hx hb dL_forgets_75 (lv_at hl 1 rfl) ?_
          refine z_lald X h pkB (fun _ => rfl) (by decide) (hL (39, 0, 0, 0) ⟨by decide, rfl, rfl, rfl⟩) (by omega) (v := pk (fun k => mfN Y d e j (24 * (10 * d + e) + 6 * f + k))) ((pkB_at (by omega) (by omega)).trans (lp_congr (fun k hk => by rw [GMj_39]; exact st6_in hk))) dL_forgets_77 ?_
          refine lv_aload hx hb dL_forgets_78 (lv_at hl 7 rfl) ?_
          refine lv_iconst (v := nI 4) hx hb dL_forgets_80 (by decide) ?_
          refine lv_iload hx hb dL_forgets_81 (lv_at hl 0 rfl) ?_
          refine n_imul hx hb dL_forgets_83 ?_
          refine lv_iload hx hb dL_forgets_84 (lv_at hl 2 rfl) ?_
          refine n_iadd hx hb dL_forgets_86 ?_
          refine z_lald X h pkA (fun _ => rfl) (by decide) (hL (41, 0, 0, 0) ⟨by decide, rfl, rfl, rfl⟩) (by omega) (v := pk (rw6 (Y (41, 0, 0, 0)) (24 * j + 6 * f))) (by rw [show (GMj Y d e m f j) (41, 0, 0, 0) = Y (41, 0, 0, 0) from ((GMj_see (by decide)).trans ((FM_see (by decide) (by decide) (by decide)).trans (LL_see (by decide))))]; exact pkA_at) dL_forgets_87 ?_
          refine x_doneL X h (x_runS X h (m_L_greater (GMj Y d e m f j) (fun k => mfN Y d e j (24 * (10 * d + e) + 6 * f + k)) (rw6 (Y (41, 0, 0, 0)) (24 * j + 6 * f)) (fun _ _ => mfN_sm hB _ _) (fun _ _ => hB.2.2.2 _) _) F_L_greater q772 q773 rfl (by decide) (by decide) ⟨Nat.le_refl _, Nat.le_refl _⟩ hl.1 (Nat.le_of_ble_eq_true rfl) dL_forgets_88 rfl) (fun H locs h => ?_)
          refine lv_goto (tgt := 98) hx hb dL_forgets_91 (by decide) ?_
          refine z_last X h pkB (fun _ => rfl) (by decide) (hL (39, 0, 0, 0) ⟨by decide, rfl, rfl, rfl⟩) (by omega) (st6 ((GMj Y d e m f j) (39, 0, 0, 0)) (24 * (10 * d + e) + 6 * f) (gM (fun k => mfN Y d e j (24 * (10 * d + e) + 6 * f + k)) (rw6 (Y (41, 0, 0, 0)) (24 * j + 6 * f)))) (lastB (by omega) (by omega)) dL_forgets_98 (fun H locs h => ?_)
          have h := h.eq (congrArg (lay tc ad gm dz) (show (sset (GMj Y d e m f j) (39, 0, 0, 0) (st6 ((GMj Y d e m f j) (39, 0, 0, 0)) (24 * (10 * d + e) + 6 * f) (gM (fun k => mfN Y d e j (24 * (10 * d + e) + 6 * f + k)) (rw6 (Y (41, 0, 0, 0)) (24 * j + 6 * f))))) = (GMj Y d e m f (j + 1)) from (GMj_s (fun k hk => (mfN_y (by omega) hk (mo_t c_57) (kmk_t c_71)).symm))))
          refine n_iinc (j := j) (n := 1) (lv' := [(12, .int (nI (j + 1))), (11, .int (nI (8 * d + 4 * e + f))), (10, .int (nI f)), (0, .ref (ad (35, 0, 0, 0))), (1, .ref (ad (37, 0, 0, 0))), (2, .ref (ad (39, 0, 0, 0))), (3, .ref (ad (43, 0, 0, 0))), (4, .ref (ad (41, 0, 0, 0))), (5, .ref (ad (42, 0, 0, 0))), (6, .ref (ad (40, 0, 0, 0))), (7, .ref (ad (45, 0, 0, 0))), (8, .int (nI d)), (9, .int (nI e))]) hx hb dL_forgets_99 hl (k := 0) rfl (by decide) (by decide) rfl (fun ls hl => ?_)
          refine lv_goto (tgt := 38) hx hb dL_forgets_102 (by decide) ?_
          exact ih38 (j + 1) (by omega) (by omega) H locs ls (h.eq (congrArg (lay tc ad gm dz) rfl)) (lv_sub hl [0, 1, 2, 3, 4, 5, 6, 7, 8, 9, 10, 11, 12] rfl)
