set_option maxHeartbeats 4000000 in
set_option maxRecDepth 100000 in
theorem m_L_state {l : Launch} {D : va_G} {tc : TC} {dz : Nat} {ad : KN → Nat} {Ks : List KN} {gm : GM} (Y : Mem) (hL : LV gm Ks) (hB : BR Y) (hK : K01 Y) (n m t : Nat) (hN : NR Y n m t) (hn2 : n ≤ 2) (hm10 : m ≤ 10) (ht9 : t ≤ 2000) (d e : Nat) (hd : d < 6) (he : e < 2) : MI l yL_state cL_state 10 (Option.some ClassFile.FieldType.int) 3 D tc dz ad Ks (lay tc ad gm dz (LL Y)) [.ref (ad (35, 0, 0, 0)), .ref (ad (43, 0, 0, 0)), .ref (ad (41, 0, 0, 0)), .ref (ad (42, 0, 0, 0)), .ref (ad (40, 0, 0, 0)), .ref (ad (45, 0, 0, 0)), .int (nI d), .int (nI e)] (nI (mstR Y d e m)) (lay tc ad gm dz (LL Y)) := by
  intro sz
  obtain ⟨ka, kb, hka, hkb, h34, h38, h43⟩ := hK.at (d := d) he
  refine x_ofW (by decide +kernel) (Nat.le_of_ble_eq_true rfl) (fun pp ee s mm bel meth cd ls X hr hin hz h hl => ?_)
  subst hz
  obtain ⟨hx, hb, hmaxL, hown, hts⟩ := id X.1
  have hl : lv_has ls 10 [(0, .ref (ad (35, 0, 0, 0))), (1, .ref (ad (43, 0, 0, 0))), (2, .ref (ad (41, 0, 0, 0))), (3, .ref (ad (42, 0, 0, 0))), (4, .ref (ad (40, 0, 0, 0))), (5, .ref (ad (45, 0, 0, 0))), (6, .int (nI d)), (7, .int (nI e))] := hl
  refine lv_aload_n hx hb dL_state_0 rfl (lv_at hl 1 rfl) ?_
  refine lv_iconst (v := nI 2) hx hb dL_state_1 (by decide) ?_
  refine lv_iload hx hb dL_state_2 (lv_at hl 6 rfl) ?_
  refine n_imul hx hb dL_state_4 ?_
  refine lv_iload hx hb dL_state_5 (lv_at hl 7 rfl) ?_
  refine n_iadd hx hb dL_state_7 ?_
  refine y_ald X h (fun _ => rfl) (by decide) (hL (43, 0, 0, 0) ⟨by decide, rfl, rfl, rfl⟩) (by omega) (v := nI (ka + 2 * kb)) h43 dL_state_8 ?_
  refine lv_iconst (v := nI 2) hx hb dL_state_9 (by decide) ?_
  refine n_irem hx hb (by omega) (by omega) (by omega) dL_state_10 ?_
  refine n_if_ne (tgt := 16) hx hb (by omega) dL_state_11 (by decide) (fun c_11 => ?_) (fun c_11 => ?_)
  · skip
    have k1 : ¬ Y (34, 0, 0, 0) (10 * d + e) = 0 := by rw [h34, nz_nI (by omega)]; omega
    refine lv_aload_n hx hb dL_state_16 rfl (lv_at hl 0 rfl) ?_
    refine lv_aload_n hx hb dL_state_17 rfl (lv_at hl 2 rfl) ?_
    refine lv_aload_n hx hb dL_state_18 rfl (lv_at hl 3 rfl) ?_
    refine lv_aload hx hb dL_state_19 (lv_at hl 4 rfl) ?_
    refine lv_aload hx hb dL_state_21 (lv_at hl 5 rfl) ?_
    refine lv_iload hx hb dL_state_23 (lv_at hl 6 rfl) ?_
    refine lv_iload hx hb dL_state_25 (lv_at hl 7 rfl) ?_
    refine x_doneI X h (x_runS X h (m_L_isCovered Y hL hB n m t hN hn2 hm10 ht9 d e (by omega) (by omega) _) F_L_isCovered q741 q742 rfl (by decide) (by decide) ⟨Nat.le_refl _, Nat.le_refl _⟩ hl.1 (Nat.le_of_ble_eq_true rfl) dL_state_27 rfl) (fun H locs h => ?_)
    refine lv_istore (lv' := [(8, .int (bI (cvt Y d e m))), (0, .ref (ad (35, 0, 0, 0))), (1, .ref (ad (43, 0, 0, 0))), (2, .ref (ad (41, 0, 0, 0))), (3, .ref (ad (42, 0, 0, 0))), (4, .ref (ad (40, 0, 0, 0))), (5, .ref (ad (45, 0, 0, 0))), (6, .int (nI d)), (7, .int (nI e))]) hx hb dL_state_30 hl (by decide) rfl (fun ls hl => ?_)
    refine lv_aload_n hx hb dL_state_32 rfl (lv_at hl 1 rfl) ?_
    refine lv_iload hx hb dL_state_33 (lv_at hl 7 rfl) ?_
    refine lv_iload hx hb dL_state_35 (lv_at hl 8 rfl) ?_
    refine x_doneI X h (x_runS X h (m_L_all Y hL hB d e (by omega) (by omega) _) F_L_all q754 q755 rfl (by decide) (by decide) ⟨Nat.le_refl _, Nat.le_refl _⟩ hl.1 (Nat.le_of_ble_eq_true rfl) dL_state_37 rfl) (fun H locs h => ?_)
    refine lv_istore (lv' := [(9, .int (nI (cnA Y d e 4))), (8, .int (bI (cvt Y d e m))), (0, .ref (ad (35, 0, 0, 0))), (1, .ref (ad (43, 0, 0, 0))), (2, .ref (ad (41, 0, 0, 0))), (3, .ref (ad (42, 0, 0, 0))), (4, .ref (ad (40, 0, 0, 0))), (5, .ref (ad (45, 0, 0, 0))), (6, .int (nI d)), (7, .int (nI e))]) hx hb dL_state_40 hl (by decide) rfl (fun ls hl => ?_)
    have hcA := cnA_le Y d e 4
    refine lv_iload hx hb dL_state_42 (lv_at hl 0 rfl) ?_
    refine lv_if_le (tgt := 56) hx hb dL_state_44 (by decide) (fun c_44 => ?_) (fun c_44 => ?_)
    · skip
      have z44 := n_le0 (a := cnA Y d e 4) (by omega) c_44
      refine lv_iload hx hb dL_state_56 (lv_at hl 1 rfl) ?_
      refine b_if_eq (tgt := 65) hx hb dL_state_58 (by decide) (fun c_58 => ?_) (fun c_58 => ?_)
      · skip
        refine lv_iconst (v := nI 3) hx hb dL_state_65 (by decide) ?_
        refine x_iret X h hr rfl ?_ (fun _ _ => rfl) dL_state_66
        · unfold mstR thr; rw [if_neg k1, if_neg k1, show decide (0 < cnA Y d e 4) = false from decide_eq_false (by omega), c_58]; rfl
      · skip
        refine lv_iconst (v := nI 2) hx hb dL_state_61 (by decide) ?_
        refine lv_goto (tgt := 66) hx hb dL_state_62 (by decide) ?_
        refine x_iret X h hr rfl ?_ (fun _ _ => rfl) dL_state_66
        · unfold mstR thr; rw [if_neg k1, if_neg k1, show decide (0 < cnA Y d e 4) = false from decide_eq_false (by omega), c_58]; rfl
    · skip
      have z44 := n_gt0 (a := cnA Y d e 4) (by omega) c_44
      refine lv_iload hx hb dL_state_47 (lv_at hl 1 rfl) ?_
      refine b_if_ne (tgt := 56) hx hb dL_state_49 (by decide) (fun c_49 => ?_) (fun c_49 => ?_)
      · skip
        refine lv_iload hx hb dL_state_56 (lv_at hl 1 rfl) ?_
        refine b_if_eq (tgt := 65) hx hb dL_state_58 (by decide) (fun c => by rw [c_49] at c; cases c) (fun _ => ?_)
        refine lv_iconst (v := nI 2) hx hb dL_state_61 (by decide) ?_
        refine lv_goto (tgt := 66) hx hb dL_state_62 (by decide) ?_
        refine x_iret X h hr rfl ?_ (fun _ _ => rfl) dL_state_66
        · unfold mstR thr; rw [if_neg k1, if_neg k1, show decide (0 < cnA Y d e 4) = true from decide_eq_true (by omega), c_49]; rfl
      · skip
        refine lv_iconst (v := nI 1) hx hb dL_state_52 (by decide) ?_
        refine lv_goto (tgt := 66) hx hb dL_state_53 (by decide) ?_
        refine x_iret X h hr rfl ?_ (fun _ _ => rfl) dL_state_66
        · unfold mstR thr; rw [if_neg k1, if_neg k1, show decide (0 < cnA Y d e 4) = true from decide_eq_true (by omega), c_49]; rfl
  · skip
    refine lv_iconst (v := nI 0) hx hb dL_state_14 (by decide) ?_
    refine x_iret X h hr rfl ?_ (fun _ _ => rfl) dL_state_15
    · rw [show mstR Y d e m = 0 from if_pos (by rw [h34, show ka = 0 by omega]; rfl)]
