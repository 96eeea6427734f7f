set_option maxHeartbeats 4000000 in
set_option maxRecDepth 100000 in
theorem m_L_all {l : Launch} {D : va_G} {tc : TC} {dz : Nat} {ad : KN → Nat} {Ks : List KN} {gm : GM} (Y : Mem) (hL : LV gm Ks) (hB : BR Y) (d e : Nat) (hd : d < 6) (he : e < 2) : MI l yL_all cL_all 5 (Option.some ClassFile.FieldType.int) 2 D tc dz ad Ks (lay tc ad gm dz (LL Y)) [.ref (ad (35, 0, 0, 0)), .int (nI d), .int (nI e)] (nI (cnA Y d e 4)) (lay tc ad gm dz (LL Y)) := by
  intro sz
  refine x_ofW (by decide +kernel) (Nat.le_of_ble_eq_true rfl) (fun pp ee s mm bel meth cd ls X hr hin hz h hl => ?_)
  subst hz
  obtain ⟨hx, hb, hmaxL, hown, hts⟩ := id X.1
  have hl : lv_has ls 5 [(0, .ref (ad (35, 0, 0, 0))), (1, .int (nI d)), (2, .int (nI e))] := hl
  refine lv_iconst (v := nI 0) hx hb dL_all_0 (by decide) ?_
  refine lv_istore_n (lv' := [(3, .int (nI 0)), (0, .ref (ad (35, 0, 0, 0))), (1, .int (nI d)), (2, .int (nI e))]) hx hb dL_all_1 rfl hl (by decide) rfl (fun ls hl => ?_)
  refine lv_iconst (v := nI 0) hx hb dL_all_2 (by decide) ?_
  refine lv_istore (lv' := [(4, .int (nI 0)), (3, .int (nI 0)), (0, .ref (ad (35, 0, 0, 0))), (1, .int (nI d)), (2, .int (nI e))]) hx hb dL_all_3 hl (by decide) rfl (fun ls hl => ?_)
  refine y_loop (D := D) (A := wA ad Ks s.heap.size) (ad := ad) (Ks := Ks) (nL := 5) (fun f : Nat => lay tc ad gm dz (LL Y)) (fun f => [(4, .int (nI f)), (3, .int (nI (cnA Y d e f))), (0, .ref (ad (35, 0, 0, 0))), (1, .int (nI d)), (2, .int (nI e))]) (fun _ => []) (fun f : Nat => f ≤ 4) (fun f => 4 - f) (fun f hi5 ih5 H locs ls h hl => ?_) 0 (Nat.zero_le _) (h.eq (congrArg (lay tc ad gm dz) rfl)) (lv_sub hl [0, 1, 2, 3, 4] rfl) rfl
  have h : Sx D (wA ad Ks s.heap.size) ad Ks (lay tc ad gm dz (LL Y)) s H locs := h
  have hl : lv_has ls 5 [(4, .int (nI f)), (3, .int (nI (cnA Y d e f))), (0, .ref (ad (35, 0, 0, 0))), (1, .int (nI d)), (2, .int (nI e))] := hl
  refine lv_iload hx hb dL_all_5 (lv_at hl 0 rfl) ?_
  refine lv_iconst (v := nI 4) hx hb dL_all_7 (by decide) ?_
  refine n_icmp_ge (tgt := 32) hx hb (by omega) (by omega) dL_all_8 (by decide) (fun c_8 => ?_) (fun c_8 => ?_)
  · skip
    obtain rfl : f = 4 := by omega
    refine lv_iload_n hx hb dL_all_32 rfl (lv_at hl 1 rfl) ?_
    exact x_iret X h hr rfl rfl (fun _ _ => rfl) dL_all_33
  · skip
    refine lv_iload_n hx hb dL_all_11 rfl (lv_at hl 1 rfl) ?_
    refine lv_aload_n hx hb dL_all_12 rfl (lv_at hl 2 rfl) ?_
    refine lv_iload_n hx hb dL_all_13 rfl (lv_at hl 3 rfl) ?_
    refine lv_iload_n hx hb dL_all_14 rfl (lv_at hl 4 rfl) ?_
    refine lv_iload hx hb dL_all_15 (lv_at hl 0 rfl) ?_
    refine x_doneI X h (x_runS X h (m_L_at (LL Y) d e f _) F_L_at q744 q745 rfl (by decide) (by decide) ⟨Nat.le_refl _, Nat.le_refl _⟩ hl.1 (Nat.le_of_ble_eq_true rfl) dL_all_17 rfl) (fun H locs h => ?_)
    refine z_lald X h pkB (fun _ => rfl) (by decide) (hL (35, 0, 0, 0) ⟨by decide, rfl, rfl, rfl⟩) (by omega) (v := pk (rw6 (Y (35, 0, 0, 0)) (24 * (10 * d + e) + 6 * f))) ((congrFun (congrArg pkB (LL_see (by decide))) _).trans (pkB_at (by omega) (by omega))) dL_all_20 ?_
    refine x_doneI X h (x_runS X h (m_L_count (LL Y) (rw6 (Y (35, 0, 0, 0)) (24 * (10 * d + e) + 6 * f)) (fun _ _ => hB.1 _) _) F_L_count q757 q758 rfl (by decide) (by decide) ⟨Nat.le_refl _, Nat.le_refl _⟩ hl.1 (Nat.le_of_ble_eq_true rfl) dL_all_21 rfl) (fun H locs h => ?_)
    refine n_iadd hx hb dL_all_24 ?_
    rw [show nI ((cnA Y d e f) + (ctv (rw6 (Y (35, 0, 0, 0)) (24 * (10 * d + e) + 6 * f)))) = nI (cnA Y d e (f + 1)) from rfl]
    refine lv_istore_n (lv' := [(3, .int (nI (cnA Y d e (f + 1)))), (4, .int (nI f)), (0, .ref (ad (35, 0, 0, 0))), (1, .int (nI d)), (2, .int (nI e))]) hx hb dL_all_25 rfl hl (by decide) rfl (fun ls hl => ?_)
    refine n_iinc (j := f) (n := 1) (lv' := [(4, .int (nI (f + 1))), (3, .int (nI (cnA Y d e (f + 1)))), (0, .ref (ad (35, 0, 0, 0))), (1, .int (nI d)), (2, .int (nI e))]) hx hb dL_all_26 hl (k := 1) rfl (by decide) (by decide) rfl (fun ls hl => ?_)
    refine lv_goto (tgt := 5) hx hb dL_all_29 (by decide) ?_
    exact ih5 (f + 1) (by omega) (by omega) H locs ls (h.eq (congrArg (lay tc ad gm dz) rfl)) (lv_sub hl [0, 1, 2, 3, 4] rfl)
