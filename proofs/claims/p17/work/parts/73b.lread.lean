set_option maxHeartbeats 4000000 in
set_option maxRecDepth 100000 in
theorem m_L_may {l : Launch} {D : va_G} {tc : TC} {dz : Nat} {ad : KN → Nat} {Ks : List KN} {gm : GM} (Y : Mem) (hL : LV gm Ks) (d e : Nat) (hd : d < 6) (he : e < 2) (f : Nat) (hf : f < 4) : MI l yL_may cL_may 4 (Option.some ClassFile.FieldType.boolean) 0 D tc dz ad Ks (lay tc ad gm dz (LL Y)) [.ref (ad (44, 0, 0, 0)), .int (nI d), .int (nI e), .int (nI f)] (bI (mayB Y d e f)) (lay tc ad gm dz (LL Y)) := by
  intro sz
  refine x_ofW (by decide +kernel) (Nat.le_of_ble_eq_true rfl) (fun pp ee s mm bel meth cd ls X hr hin hz h hl => ?_)
  subst hz
  obtain ⟨hx, hb, hmaxL, hown, hts⟩ := id X.1
  have hl : lv_has ls 4 [(0, .ref (ad (44, 0, 0, 0))), (1, .int (nI d)), (2, .int (nI e)), (3, .int (nI f))] := hl
  refine lv_aload_n hx hb dL_may_0 rfl (lv_at hl 0 rfl) ?_
  refine lv_iconst (v := nI 4) hx hb dL_may_1 (by decide) ?_
  refine lv_iload_n hx hb dL_may_2 rfl (lv_at hl 2 rfl) ?_
  refine n_imul hx hb dL_may_3 ?_
  refine y_ald X h (fun _ => rfl) (by decide) (hL (44, 0, 0, 0) ⟨by decide, rfl, rfl, rfl⟩) (by omega) (v := LL Y (44, 0, 0, 0) (4 * e)) rfl dL_may_4 ?_
  refine lv_iload_n hx hb dL_may_5 rfl (lv_at hl 1 rfl) ?_
  refine lv_iconst (v := nI 2) hx hb dL_may_6 (by decide) ?_
  refine n_idiv hx hb (by omega) (by omega) (by omega) dL_may_7 ?_
  refine lv_icmp_eq (tgt := 30) hx hb dL_may_8 (by decide) (fun c_8 => ?_) (fun c_8 => ?_)
  · skip
    have hq : mayB Y d e f = true := by unfold mayB; rw [if_pos (wc_ow.symm.trans c_8)]
    refine lv_iconst (v := nI 1) hx hb dL_may_30 (by decide) ?_
    refine lv_goto (tgt := 35) hx hb dL_may_31 (by decide) ?_
    rw [lb_t hq]
    exact x_iret X h hr (bI_nar _) rfl (fun _ _ => rfl) dL_may_35
  · skip
    refine lv_aload_n hx hb dL_may_11 rfl (lv_at hl 0 rfl) ?_
    refine lv_iconst (v := nI 4) hx hb dL_may_12 (by decide) ?_
    refine lv_iload_n hx hb dL_may_13 rfl (lv_at hl 2 rfl) ?_
    refine n_imul hx hb dL_may_14 ?_
    refine lv_iconst (v := nI 1) hx hb dL_may_15 (by decide) ?_
    refine n_iadd hx hb dL_may_16 ?_
    refine lv_iload_n hx hb dL_may_17 rfl (lv_at hl 1 rfl) ?_
    refine lv_iconst (v := nI 2) hx hb dL_may_18 (by decide) ?_
    refine n_idiv hx hb (by omega) (by omega) (by omega) dL_may_19 ?_
    refine n_iadd hx hb dL_may_20 ?_
    refine y_ald X h (fun _ => rfl) (by decide) (hL (44, 0, 0, 0) ⟨by decide, rfl, rfl, rfl⟩) (by omega) (v := LL Y (44, 0, 0, 0) (4 * e + 1 + d / 2)) rfl dL_may_21 ?_
    refine lv_iload_n hx hb dL_may_22 rfl (lv_at hl 3 rfl) ?_
    refine lv_ishr hx hb dL_may_23 ?_
    refine lv_iconst (v := nI 1) hx hb dL_may_24 (by decide) ?_
    refine lv_iand hx hb dL_may_25 ?_
    refine lv_iconst (v := nI 1) hx hb dL_may_26 (by decide) ?_
    refine lv_icmp_ne (tgt := 34) hx hb dL_may_27 (by decide) (fun c_27 => ?_) (fun c_27 => ?_)
    · skip
      have hq : mayB Y d e f = false := by unfold mayB; rw [if_neg (fun z => c_8 (wc_ow.trans z)), ← wc_sh (X := Y) (e := e) (q := d / 2) (by omega)]; exact bit_f c_27
      refine lv_iconst (v := nI 0) hx hb dL_may_34 (by decide) ?_
      rw [lb_f hq]
      exact x_iret X h hr (bI_nar _) rfl (fun _ _ => rfl) dL_may_35
    · skip
      have hq : mayB Y d e f = true := by unfold mayB; rw [if_neg (fun z => c_8 (wc_ow.trans z)), ← wc_sh (X := Y) (e := e) (q := d / 2) (by omega)]; exact bit_t c_27
      refine lv_iconst (v := nI 1) hx hb dL_may_30 (by decide) ?_
      refine lv_goto (tgt := 35) hx hb dL_may_31 (by decide) ?_
      rw [lb_t hq]
      exact x_iret X h hr (bI_nar _) rfl (fun _ _ => rfl) dL_may_35
