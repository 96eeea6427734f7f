set_option maxHeartbeats 4000000 in
set_option maxRecDepth 100000 in
theorem m_L_isOld {l : Launch} {D : va_G} {tc : TC} {dz : Nat} {ad : KN → Nat} {Ks : List KN} {gm : GM} (Y : Mem) (hL : LV gm Ks) (hB : BR Y) (hK : K01 Y) (d o e : Nat) (hd : d < 6) (ho : o < 6) (he : e < 2) : MI l yL_isOld cL_isOld 8 (Option.some ClassFile.FieldType.boolean) 2 D tc dz ad Ks (lay tc ad gm dz (LL Y)) [.ref (ad (35, 0, 0, 0)), .ref (ad (39, 0, 0, 0)), .ref (ad (43, 0, 0, 0)), .int (nI d), .int (nI o), .int (nI e)] (bI (oldR Y d o e)) (lay tc ad gm dz (LL Y)) := by
  intro sz
  obtain ⟨ka, kb, hka, hkb, h34, h38, h43⟩ := hK.at (d := d) he
  refine x_ofW (by decide +kernel) (Nat.le_of_ble_eq_true rfl) (fun pp ee s mm bel meth cd ls X hr hin hz h hl => ?_)
  subst hz
  obtain ⟨hx, hb, hmaxL, hown, hts⟩ := id X.1
  have hl : lv_has ls 8 [(0, .ref (ad (35, 0, 0, 0))), (1, .ref (ad (39, 0, 0, 0))), (2, .ref (ad (43, 0, 0, 0))), (3, .int (nI d)), (4, .int (nI o)), (5, .int (nI e))] := hl
  refine lv_aload_n hx hb dL_isOld_0 rfl (lv_at hl 2 rfl) ?_
  refine lv_iconst (v := nI 2) hx hb dL_isOld_1 (by decide) ?_
  refine lv_iload_n hx hb dL_isOld_2 rfl (lv_at hl 3 rfl) ?_
  refine n_imul hx hb dL_isOld_3 ?_
  refine lv_iload hx hb dL_isOld_4 (lv_at hl 5 rfl) ?_
  refine n_iadd hx hb dL_isOld_6 ?_
  refine y_ald X h (fun _ => rfl) (by decide) (hL (43, 0, 0, 0) ⟨by decide, rfl, rfl, rfl⟩) (by omega) (v := nI (ka + 2 * kb)) h43 dL_isOld_7 ?_
  refine lv_iconst (v := nI 1) hx hb dL_isOld_8 (by decide) ?_
  refine n_icmp_le (tgt := 16) hx hb (by omega) (by omega) dL_isOld_9 (by decide) (fun c_9 => ?_) (fun c_9 => ?_)
  · skip
    have hq : ((!decide (Y (38, 0, 0, 0) (10 * d + e) = 0)) && allB (fun fq => cvr (rw6 (Y (39, 0, 0, 0)) (24 * (10 * d + e) + 6 * fq)) (rw6 (Y (35, 0, 0, 0)) (24 * (10 * o + e) + 6 * fq))) 0) = false := by rw [h38, show kb = 0 by omega]; rfl
    refine lv_iconst (v := nI 0) hx hb dL_isOld_16 (by decide) ?_
    rw [lb_f hq]
    refine lv_istore (lv' := [(6, .int (bI ((!decide (Y (38, 0, 0, 0) (10 * d + e) = 0)) && allB (fun fq => cvr (rw6 (Y (39, 0, 0, 0)) (24 * (10 * d + e) + 6 * fq)) (rw6 (Y (35, 0, 0, 0)) (24 * (10 * o + e) + 6 * fq))) 0))), (0, .ref (ad (35, 0, 0, 0))), (1, .ref (ad (39, 0, 0, 0))), (2, .ref (ad (43, 0, 0, 0))), (3, .int (nI d)), (4, .int (nI o)), (5, .int (nI e))]) hx hb dL_isOld_17 hl (by decide) rfl (fun ls hl => ?_)
    refine lv_iconst (v := nI 0) hx hb dL_isOld_19 (by decide) ?_
    refine lv_istore (lv' := [(7, .int (nI 0)), (6, .int (bI ((!decide (Y (38, 0, 0, 0) (10 * d + e) = 0)) && allB (fun fq => cvr (rw6 (Y (39, 0, 0, 0)) (24 * (10 * d + e) + 6 * fq)) (rw6 (Y (35, 0, 0, 0)) (24 * (10 * o + e) + 6 * fq))) 0))), (0, .ref (ad (35, 0, 0, 0))), (1, .ref (ad (39, 0, 0, 0))), (2, .ref (ad (43, 0, 0, 0))), (3, .int (nI d)), (4, .int (nI o)), (5, .int (nI e))]) hx hb dL_isOld_20 hl (by decide) rfl (fun ls hl => ?_)
    refine y_loop (D := D) (A := wA ad Ks s.heap.size) (ad := ad) (Ks := Ks) (nL := 8) (fun f : Nat => lay tc ad gm dz (LL Y)) (fun f => [(7, .int (nI f)), (6, .int (bI ((!decide (Y (38, 0, 0, 0) (10 * d + e) = 0)) && allB (fun fq => cvr (rw6 (Y (39, 0, 0, 0)) (24 * (10 * d + e) + 6 * fq)) (rw6 (Y (35, 0, 0, 0)) (24 * (10 * o + e) + 6 * fq))) f))), (0, .ref (ad (35, 0, 0, 0))), (1, .ref (ad (39, 0, 0, 0))), (3, .int (nI d)), (4, .int (nI o)), (5, .int (nI e))]) (fun _ => []) (fun f : Nat => f ≤ 4) (fun f => 4 - f) (fun f hi22 ih22 H locs ls h hl => ?_) 0 (Nat.zero_le _) (h.eq (congrArg (lay tc ad gm dz) rfl)) (lv_sub hl [0, 1, 2, 3, 5, 6, 7] rfl) rfl
    have h : Sx D (wA ad Ks s.heap.size) ad Ks (lay tc ad gm dz (LL Y)) s H locs := h
    have hl : lv_has ls 8 [(7, .int (nI f)), (6, .int (bI ((!decide (Y (38, 0, 0, 0) (10 * d + e) = 0)) && allB (fun fq => cvr (rw6 (Y (39, 0, 0, 0)) (24 * (10 * d + e) + 6 * fq)) (rw6 (Y (35, 0, 0, 0)) (24 * (10 * o + e) + 6 * fq))) f))), (0, .ref (ad (35, 0, 0, 0))), (1, .ref (ad (39, 0, 0, 0))), (3, .int (nI d)), (4, .int (nI o)), (5, .int (nI e))] := hl
    refine lv_iload hx hb dL_isOld_22 (lv_at hl 0 rfl) ?_
    refine lv_iconst (v := nI 4) hx hb dL_isOld_24 (by decide) ?_
    refine n_icmp_ge (tgt := 73) hx hb (by omega) (by omega) dL_isOld_25 (by decide) (fun c_25 => ?_) (fun c_25 => ?_)
    · skip
      obtain rfl : f = 4 := by omega
      refine lv_iload hx hb dL_isOld_73 (lv_at hl 1 rfl) ?_
      refine x_iret X h hr (bI_nar _) ?_ (fun _ _ => rfl) dL_isOld_75
      · unfold oldR; rw [old_f]
    · skip
      refine lv_iload hx hb dL_isOld_28 (lv_at hl 1 rfl) ?_
      refine b_if_eq (tgt := 64) hx hb dL_isOld_30 (by decide) (fun c_30 => ?_) (fun c_30 => ?_)
      · skip
        have hq : ((!decide (Y (38, 0, 0, 0) (10 * d + e) = 0)) && allB (fun fq => cvr (rw6 (Y (39, 0, 0, 0)) (24 * (10 * d + e) + 6 * fq)) (rw6 (Y (35, 0, 0, 0)) (24 * (10 * o + e) + 6 * fq))) (f + 1)) = false := by rw [allB, ← Bool.and_assoc, c_30, Bool.false_and]
        refine lv_iconst (v := nI 0) hx hb dL_isOld_64 (by decide) ?_
        rw [lb_f hq]
        refine lv_istore (lv' := [(6, .int (bI ((!decide (Y (38, 0, 0, 0) (10 * d + e) = 0)) && allB (fun fq => cvr (rw6 (Y (39, 0, 0, 0)) (24 * (10 * d + e) + 6 * fq)) (rw6 (Y (35, 0, 0, 0)) (24 * (10 * o + e) + 6 * fq))) (f + 1)))), (7, .int (nI f)), (0, .ref (ad (35, 0, 0, 0))), (1, .ref (ad (39, 0, 0, 0))), (3, .int (nI d)), (4, .int (nI o)), (5, .int (nI e))]) hx hb dL_isOld_65 hl (by decide) rfl (fun ls hl => ?_)
        refine n_iinc (j := f) (n := 1) (lv' := [(7, .int (nI (f + 1))), (6, .int (bI ((!decide (Y (38, 0, 0, 0) (10 * d + e) = 0)) && allB (fun fq => cvr (rw6 (Y (39, 0, 0, 0)) (24 * (10 * d + e) + 6 * fq)) (rw6 (Y (35, 0, 0, 0)) (24 * (10 * o + e) + 6 * fq))) (f + 1)))), (0, .ref (ad (35, 0, 0, 0))), (1, .ref (ad (39, 0, 0, 0))), (3, .int (nI d)), (4, .int (nI o)), (5, .int (nI e))]) hx hb dL_isOld_67 hl (k := 1) rfl (by decide) (by decide) rfl (fun ls hl => ?_)
        refine lv_goto (tgt := 22) hx hb dL_isOld_70 (by decide) ?_
        exact ih22 (f + 1) (by omega) (by omega) H locs ls (h.eq (congrArg (lay tc ad gm dz) rfl)) (lv_sub hl [0, 1, 2, 3, 4, 5, 6] rfl)
      · skip
        refine lv_aload_n hx hb dL_isOld_33 rfl (lv_at hl 3 rfl) ?_
        refine lv_iload_n hx hb dL_isOld_34 rfl (lv_at hl 4 rfl) ?_
        refine lv_iload hx hb dL_isOld_35 (lv_at hl 6 rfl) ?_
        refine lv_iload hx hb dL_isOld_37 (lv_at hl 0 rfl) ?_
        refine x_doneI X h (x_runS X h (m_L_at (LL Y) d e f _) F_L_at q744 q745 rfl (by decide) (by decide) ⟨Nat.le_refl _, Nat.le_refl _⟩ hl.1 (Nat.le_of_ble_eq_true rfl) dL_isOld_39 rfl) (fun H locs h => ?_)
        refine z_lald X h pkB (fun _ => rfl) (by decide) (hL (39, 0, 0, 0) ⟨by decide, rfl, rfl, rfl⟩) (by omega) (v := pk (rw6 (Y (39, 0, 0, 0)) (24 * (10 * d + e) + 6 * f))) ((congrFun (congrArg pkB (LL_see (by decide))) _).trans (pkB_at (by omega) (by omega))) dL_isOld_42 ?_
        refine lv_aload_n hx hb dL_isOld_43 rfl (lv_at hl 2 rfl) ?_
        refine lv_iload hx hb dL_isOld_44 (lv_at hl 5 rfl) ?_
        refine lv_iload hx hb dL_isOld_46 (lv_at hl 6 rfl) ?_
        refine lv_iload hx hb dL_isOld_48 (lv_at hl 0 rfl) ?_
        refine x_doneI X h (x_runS X h (m_L_at (LL Y) o e f _) F_L_at q744 q745 rfl (by decide) (by decide) ⟨Nat.le_refl _, Nat.le_refl _⟩ hl.1 (Nat.le_of_ble_eq_true rfl) dL_isOld_50 rfl) (fun H locs h => ?_)
        refine z_lald X h pkB (fun _ => rfl) (by decide) (hL (35, 0, 0, 0) ⟨by decide, rfl, rfl, rfl⟩) (by omega) (v := pk (rw6 (Y (35, 0, 0, 0)) (24 * (10 * o + e) + 6 * f))) ((congrFun (congrArg pkB (LL_see (by decide))) _).trans (pkB_at (by omega) (by omega))) dL_isOld_53 ?_
        refine x_doneI X h (x_runS X h (m_L_covers (LL Y) (rw6 (Y (39, 0, 0, 0)) (24 * (10 * d + e) + 6 * f)) (rw6 (Y (35, 0, 0, 0)) (24 * (10 * o + e) + 6 * f)) (fun _ _ => hB.2.2.1 _) (fun _ _ => hB.1 _) _) F_L_covers q747 q748 rfl (by decide) (by decide) ⟨Nat.le_refl _, Nat.le_refl _⟩ hl.1 (Nat.le_of_ble_eq_true rfl) dL_isOld_54 rfl) (fun H locs h => ?_)
        refine b_if_eq (tgt := 64) hx hb dL_isOld_57 (by decide) (fun c_57 => ?_) (fun c_57 => ?_)
        · skip
          have hq : ((!decide (Y (38, 0, 0, 0) (10 * d + e) = 0)) && allB (fun fq => cvr (rw6 (Y (39, 0, 0, 0)) (24 * (10 * d + e) + 6 * fq)) (rw6 (Y (35, 0, 0, 0)) (24 * (10 * o + e) + 6 * fq))) (f + 1)) = false := by rw [allB_n (p := fun fq => cvr (rw6 (Y (39, 0, 0, 0)) (24 * (10 * d + e) + 6 * fq)) (rw6 (Y (35, 0, 0, 0)) (24 * (10 * o + e) + 6 * fq))) (n := f) c_57, Bool.and_false, Bool.and_false]
          refine lv_iconst (v := nI 0) hx hb dL_isOld_64 (by decide) ?_
          rw [lb_f hq]
          refine lv_istore (lv' := [(6, .int (bI ((!decide (Y (38, 0, 0, 0) (10 * d + e) = 0)) && allB (fun fq => cvr (rw6 (Y (39, 0, 0, 0)) (24 * (10 * d + e) + 6 * fq)) (rw6 (Y (35, 0, 0, 0)) (24 * (10 * o + e) + 6 * fq))) (f + 1)))), (7, .int (nI f)), (0, .ref (ad (35, 0, 0, 0))), (1, .ref (ad (39, 0, 0, 0))), (3, .int (nI d)), (4, .int (nI o)), (5, .int (nI e))]) hx hb dL_isOld_65 hl (by decide) rfl (fun ls hl => ?_)
          refine n_iinc (j := f) (n := 1) (lv' := [(7, .int (nI (f + 1))), (6, .int (bI ((!decide (Y (38, 0, 0, 0) (10 * d + e) = 0)) && allB (fun fq => cvr (rw6 (Y (39, 0, 0, 0)) (24 * (10 * d + e) + 6 * fq)) (rw6 (Y (35, 0, 0, 0)) (24 * (10 * o + e) + 6 * fq))) (f + 1)))), (0, .ref (ad (35, 0, 0, 0))), (1, .ref (ad (39, 0, 0, 0))), (3, .int (nI d)), (4, .int (nI o)), (5, .int (nI e))]) hx hb dL_isOld_67 hl (k := 1) rfl (by decide) (by decide) rfl (fun ls hl => ?_)
          refine lv_goto (tgt := 22) hx hb dL_isOld_70 (by decide) ?_
          exact ih22 (f + 1) (by omega) (by omega) H locs ls (h.eq (congrArg (lay tc ad gm dz) rfl)) (lv_sub hl [0, 1, 2, 3, 4, 5, 6] rfl)
        · skip
          have hq : ((!decide (Y (38, 0, 0, 0) (10 * d + e) = 0)) && allB (fun fq => cvr (rw6 (Y (39, 0, 0, 0)) (24 * (10 * d + e) + 6 * fq)) (rw6 (Y (35, 0, 0, 0)) (24 * (10 * o + e) + 6 * fq))) (f + 1)) = true := by rw [allB_n (p := fun fq => cvr (rw6 (Y (39, 0, 0, 0)) (24 * (10 * d + e) + 6 * fq)) (rw6 (Y (35, 0, 0, 0)) (24 * (10 * o + e) + 6 * fq))) (n := f) c_57, Bool.and_true]; exact c_30
          refine lv_iconst (v := nI 1) hx hb dL_isOld_60 (by decide) ?_
          refine lv_goto (tgt := 65) hx hb dL_isOld_61 (by decide) ?_
          rw [lb_t hq]
          refine lv_istore (lv' := [(6, .int (bI ((!decide (Y (38, 0, 0, 0) (10 * d + e) = 0)) && allB (fun fq => cvr (rw6 (Y (39, 0, 0, 0)) (24 * (10 * d + e) + 6 * fq)) (rw6 (Y (35, 0, 0, 0)) (24 * (10 * o + e) + 6 * fq))) (f + 1)))), (7, .int (nI f)), (0, .ref (ad (35, 0, 0, 0))), (1, .ref (ad (39, 0, 0, 0))), (3, .int (nI d)), (4, .int (nI o)), (5, .int (nI e))]) hx hb dL_isOld_65 hl (by decide) rfl (fun ls hl => ?_)
          refine n_iinc (j := f) (n := 1) (lv' := [(7, .int (nI (f + 1))), (6, .int (bI ((!decide (Y (38, 0, 0, 0) (10 * d + e) = 0)) && allB (fun fq => cvr (rw6 (Y (39, 0, 0, 0)) (24 * (10 * d + e) + 6 * fq)) (rw6 (Y (35, 0, 0, 0)) (24 * (10 * o + e) + 6 * fq))) (f + 1)))), (0, .ref (ad (35, 0, 0, 0))), (1, .ref (ad (39, 0, 0, 0))), (3, .int (nI d)), (4, .int (nI o)), (5, .int (nI e))]) hx hb dL_isOld_67 hl (k := 1) rfl (by decide) (by decide) rfl (fun ls hl => ?_)
          refine lv_goto (tgt := 22) hx hb dL_isOld_70 (by decide) ?_
          exact ih22 (f + 1) (by omega) (by omega) H locs ls (h.eq (congrArg (lay tc ad gm dz) rfl)) (lv_sub hl [0, 1, 2, 3, 4, 5, 6] rfl)
  · skip
    have hq : ((!decide (Y (38, 0, 0, 0) (10 * d + e) = 0)) && allB (fun fq => cvr (rw6 (Y (39, 0, 0, 0)) (24 * (10 * d + e) + 6 * fq)) (rw6 (Y (35, 0, 0, 0)) (24 * (10 * o + e) + 6 * fq))) 0) = true := by rw [h38, show kb = 1 by omega]; rfl
    refine lv_iconst (v := nI 1) hx hb dL_isOld_12 (by decide) ?_
    refine lv_goto (tgt := 17) hx hb dL_isOld_13 (by decide) ?_
    rw [lb_t hq]
    refine lv_istore (lv' := [(6, .int (bI ((!decide (Y (38, 0, 0, 0) (10 * d + e) = 0)) && allB (fun fq => cvr (rw6 (Y (39, 0, 0, 0)) (24 * (10 * d + e) + 6 * fq)) (rw6 (Y (35, 0, 0, 0)) (24 * (10 * o + e) + 6 * fq))) 0))), (0, .ref (ad (35, 0, 0, 0))), (1, .ref (ad (39, 0, 0, 0))), (2, .ref (ad (43, 0, 0, 0))), (3, .int (nI d)), (4, .int (nI o)), (5, .int (nI e))]) hx hb dL_isOld_17 hl (by decide) rfl (fun ls hl => ?_)
    refine lv_iconst (v := nI 0) hx hb dL_isOld_19 (by decide) ?_
    refine lv_istore (lv' := [(7, .int (nI 0)), (6, .int (bI ((!decide (Y (38, 0, 0, 0) (10 * d + e) = 0)) && allB (fun fq => cvr (rw6 (Y (39, 0, 0, 0)) (24 * (10 * d + e) + 6 * fq)) (rw6 (Y (35, 0, 0, 0)) (24 * (10 * o + e) + 6 * fq))) 0))), (0, .ref (ad (35, 0, 0, 0))), (1, .ref (ad (39, 0, 0, 0))), (2, .ref (ad (43, 0, 0, 0))), (3, .int (nI d)), (4, .int (nI o)), (5, .int (nI e))]) hx hb dL_isOld_20 hl (by decide) rfl (fun ls hl => ?_)
    refine y_loop (D := D) (A := wA ad Ks s.heap.size) (ad := ad) (Ks := Ks) (nL := 8) (fun f : Nat => lay tc ad gm dz (LL Y)) (fun f => [(7, .int (nI f)), (6, .int (bI ((!decide (Y (38, 0, 0, 0) (10 * d + e) = 0)) && allB (fun fq => cvr (rw6 (Y (39, 0, 0, 0)) (24 * (10 * d + e) + 6 * fq)) (rw6 (Y (35, 0, 0, 0)) (24 * (10 * o + e) + 6 * fq))) f))), (0, .ref (ad (35, 0, 0, 0))), (1, .ref (ad (39, 0, 0, 0))), (3, .int (nI d)), (4, .int (nI o)), (5, .int (nI e))]) (fun _ => []) (fun f : Nat => f ≤ 4) (fun f => 4 - f) (fun f hi22 ih22 H locs ls h hl => ?_) 0 (Nat.zero_le _) (h.eq (congrArg (lay tc ad gm dz) rfl)) (lv_sub hl [0, 1, 2, 3, 5, 6, 7] rfl) rfl
    have h : Sx D (wA ad Ks s.heap.size) ad Ks (lay tc ad gm dz (LL Y)) s H locs := h
    have hl : lv_has ls 8 [(7, .int (nI f)), (6, .int (bI ((!decide (Y (38, 0, 0, 0) (10 * d + e) = 0)) && allB (fun fq => cvr (rw6 (Y (39, 0, 0, 0)) (24 * (10 * d + e) + 6 * fq)) (rw6 (Y (35, 0, 0, 0)) (24 * (10 * o + e) + 6 * fq))) f))), (0, .ref (ad (35, 0, 0, 0))), (1, .ref (ad (39, 0, 0, 0))), (3, .int (nI d)), (4, .int (nI o)), (5, .int (nI e))] := hl
    refine lv_iload hx hb dL_isOld_22 (lv_at hl 0 rfl) ?_
    refine lv_iconst (v := nI 4) hx hb dL_isOld_24 (by decide) ?_
    refine n_icmp_ge (tgt := 73) hx hb (by omega) (by omega) dL_isOld_25 (by decide) (fun c_25 => ?_) (fun c_25 => ?_)
    · skip
      obtain rfl : f = 4 := by omega
      refine lv_iload hx hb dL_isOld_73 (lv_at hl 1 rfl) ?_
      refine x_iret X h hr (bI_nar _) ?_ (fun _ _ => rfl) dL_isOld_75
      · unfold oldR; rw [old_f]
    · skip
      refine lv_iload hx hb dL_isOld_28 (lv_at hl 1 rfl) ?_
      refine b_if_eq (tgt := 64) hx hb dL_isOld_30 (by decide) (fun c_30 => ?_) (fun c_30 => ?_)
      · skip
        have hq : ((!decide (Y (38, 0, 0, 0) (10 * d + e) = 0)) && allB (fun fq => cvr (rw6 (Y (39, 0, 0, 0)) (24 * (10 * d + e) + 6 * fq)) (rw6 (Y (35, 0, 0, 0)) (24 * (10 * o + e) + 6 * fq))) (f + 1)) = false := by rw [allB, ← Bool.and_assoc, c_30, Bool.false_and]
        refine lv_iconst (v := nI 0) hx hb dL_isOld_64 (by decide) ?_
        rw [lb_f hq]
        refine lv_istore (lv' := [(6, .int (bI ((!decide (Y (38, 0, 0, 0) (10 * d + e) = 0)) && allB (fun fq => cvr (rw6 (Y (39, 0, 0, 0)) (24 * (10 * d + e) + 6 * fq)) (rw6 (Y (35, 0, 0, 0)) (24 * (10 * o + e) + 6 * fq))) (f + 1)))), (7, .int (nI f)), (0, .ref (ad (35, 0, 0, 0))), (1, .ref (ad (39, 0, 0, 0))), (3, .int (nI d)), (4, .int (nI o)), (5, .int (nI e))]) hx hb dL_isOld_65 hl (by decide) rfl (fun ls hl => ?_)
        refine n_iinc (j := f) (n := 1) (lv' := [(7, .int (nI (f + 1))), (6, .int (bI ((!decide (Y (38, 0, 0, 0) (10 * d + e) = 0)) && allB (fun fq => cvr (rw6 (Y (39, 0, 0, 0)) (24 * (10 * d + e) + 6 * fq)) (rw6 (Y (35, 0, 0, 0)) (24 * (10 * o + e) + 6 * fq))) (f + 1)))), (0, .ref (ad (35, 0, 0, 0))), (1, .ref (ad (39, 0, 0, 0))), (3, .int (nI d)), (4, .int (nI o)), (5, .int (nI e))]) hx hb dL_isOld_67 hl (k := 1) rfl (by decide) (by decide) rfl (fun ls hl => ?_)
        refine lv_goto (tgt := 22) hx hb dL_isOld_70 (by decide) ?_
        exact ih22 (f + 1) (by omega) (by omega) H locs ls (h.eq (congrArg (lay tc ad gm dz) rfl)) (lv_sub hl [0, 1, 2, 3, 4, 5, 6] rfl)
      · skip
        refine lv_aload_n hx hb dL_isOld_33 rfl (lv_at hl 3 rfl) ?_
        refine lv_iload_n hx hb dL_isOld_34 rfl (lv_at hl 4 rfl) ?_
        refine lv_iload hx hb dL_isOld_35 (lv_at hl 6 rfl) ?_
        refine lv_iload hx hb dL_isOld_37 (lv_at hl 0 rfl) ?_
        refine x_doneI X h (x_runS X h (m_L_at (LL Y) d e f _) F_L_at q744 q745 rfl (by decide) (by decide) ⟨Nat.le_refl _, Nat.le_refl _⟩ hl.1 (Nat.le_of_ble_eq_true rfl) dL_isOld_39 rfl) (fun H locs h => ?_)
        refine z_lald X h pkB (fun _ => rfl) (by decide) (hL (39, 0, 0, 0) ⟨by decide, rfl, rfl, rfl⟩) (by omega) (v := pk (rw6 (Y (39, 0, 0, 0)) (24 * (10 * d + e) + 6 * f))) ((congrFun (congrArg pkB (LL_see (by decide))) _).trans (pkB_at (by omega) (by omega))) dL_isOld_42 ?_
        refine lv_aload_n hx hb dL_isOld_43 rfl (lv_at hl 2 rfl) ?_
        refine lv_iload hx hb dL_isOld_44 (lv_at hl 5 rfl) ?_
        refine lv_iload hx hb dL_isOld_46 (lv_at hl 6 rfl) ?_
        refine lv_iload hx hb dL_isOld_48 (lv_at hl 0 rfl) ?_
        refine x_doneI X h (x_runS X h (m_L_at (LL Y) o e f _) F_L_at q744 q745 rfl (by decide) (by decide) ⟨Nat.le_refl _, Nat.le_refl _⟩ hl.1 (Nat.le_of_ble_eq_true rfl) dL_isOld_50 rfl) (fun H locs h => ?_)
        refine z_lald X h pkB (fun _ => rfl) (by decide) (hL (35, 0, 0, 0) ⟨by decide, rfl, rfl, rfl⟩) (by omega) (v := pk (rw6 (Y (35, 0, 0, 0)) (24 * (10 * o + e) + 6 * f))) ((congrFun (congrArg pkB (LL_see (by decide))) _).trans (pkB_at (by omega) (by omega))) dL_isOld_53 ?_
        refine x_doneI X h (x_runS X h (m_L_covers (LL Y) (rw6 (Y (39, 0, 0, 0)) (24 * (10 * d + e) + 6 * f)) (rw6 (Y (35, 0, 0, 0)) (24 * (10 * o + e) + 6 * f)) (fun _ _ => hB.2.2.1 _) (fun _ _ => hB.1 _) _) F_L_covers q747 q748 rfl (by decide) (by decide) ⟨Nat.le_refl _, Nat.le_refl _⟩ hl.1 (Nat.le_of_ble_eq_true rfl) dL_isOld_54 rfl) (fun H locs h => ?_)
        refine b_if_eq (tgt := 64) hx hb dL_isOld_57 (by decide) (fun c_57 => ?_) (fun c_57 => ?_)
        · skip
          have hq : ((!decide (Y (38, 0, 0, 0) (10 * d + e) = 0)) && allB (fun fq => cvr (rw6 (Y (39, 0, 0, 0)) (24 * (10 * d + e) + 6 * fq)) (rw6 (Y (35, 0, 0, 0)) (24 * (10 * o + e) + 6 * fq))) (f + 1)) = false := by rw [allB_n (p := fun fq => cvr (rw6 (Y (39, 0, 0, 0)) (24 * (10 * d + e) + 6 * fq)) (rw6 (Y (35, 0, 0, 0)) (24 * (10 * o + e) + 6 * fq))) (n := f) c_57, Bool.and_false, Bool.and_false]
          refine lv_iconst (v := nI 0) hx hb dL_isOld_64 (by decide) ?_
          rw [lb_f hq]
          refine lv_istore (lv' := [(6, .int (bI ((!decide (Y (38, 0, 0, 0) (10 * d + e) = 0)) && allB (fun fq => cvr (rw6 (Y (39, 0, 0, 0)) (24 * (10 * d + e) + 6 * fq)) (rw6 (Y (35, 0, 0, 0)) (24 * (10 * o + e) + 6 * fq))) (f + 1)))), (7, .int (nI f)), (0, .ref (ad (35, 0, 0, 0))), (1, .ref (ad (39, 0, 0, 0))), (3, .int (nI d)), (4, .int (nI o)), (5, .int (nI e))]) hx hb dL_isOld_65 hl (by decide) rfl (fun ls hl => ?_)
          refine n_iinc (j := f) (n := 1) (lv' := [(7, .int (nI (f + 1))), (6, .int (bI ((!decide (Y (38, 0, 0, 0) (10 * d + e) = 0)) && allB (fun fq => cvr (rw6 (Y (39, 0, 0, 0)) (24 * (10 * d + e) + 6 * fq)) (rw6 (Y (35, 0, 0, 0)) (24 * (10 * o + e) + 6 * fq))) (f + 1)))), (0, .ref (ad (35, 0, 0, 0))), (1, .ref (ad (39, 0, 0, 0))), (3, .int (nI d)), (4, .int (nI o)), (5, .int (nI e))]) hx hb dL_isOld_67 hl (k := 1) rfl (by decide) (by decide) rfl (fun ls hl => ?_)
          refine lv_goto (tgt := 22) hx hb dL_isOld_70 (by decide) ?_
          exact ih22 (f + 1) (by omega) (by omega) H locs ls (h.eq (congrArg (lay tc ad gm dz) rfl)) (lv_sub hl [0, 1, 2, 3, 4, 5, 6] rfl)
        · skip
          have hq : ((!decide (Y (38, 0, 0, 0) (10 * d + e) = 0)) && allB (fun fq => cvr (rw6 (Y (39, 0, 0, 0)) (24 * (10 * d + e) + 6 * fq)) (rw6 (Y (35, 0, 0, 0)) (24 * (10 * o + e) + 6 * fq))) (f + 1)) = true := by rw [allB_n (p := fun fq => cvr (rw6 (Y (39, 0, 0, 0)) (24 * (10 * d + e) + 6 * fq)) (rw6 (Y (35, 0, 0, 0)) (24 * (10 * o + e) + 6 * fq))) (n := f) c_57, Bool.and_true]; exact c_30
          refine lv_iconst (v := nI 1) hx hb dL_isOld_60 (by decide) ?_
          refine lv_goto (tgt := 65) hx hb dL_isOld_61 (by decide) ?_
          rw [lb_t hq]
          refine lv_istore (lv' := [(6, .int (bI ((!decide (Y (38, 0, 0, 0) (10 * d + e) = 0)) && allB (fun fq => cvr (rw6 (Y (39, 0, 0, 0)) (24 * (10 * d + e) + 6 * fq)) (rw6 (Y (35, 0, 0, 0)) (24 * (10 * o + e) + 6 * fq))) (f + 1)))), (7, .int (nI f)), (0, .ref (ad (35, 0, 0, 0))), (1, .ref (ad (39, 0, 0, 0))), (3, .int (nI d)), (4, .int (nI o)), (5, .int (nI e))]) hx hb dL_isOld_65 hl (by decide) rfl (fun ls hl => ?_)
          refine n_iinc (j := f) (n := 1) (lv' := [(7, .int (nI (f + 1))), (6, .int (bI ((!decide (Y (38, 0, 0, 0) (10 * d + e) = 0)) && allB (fun fq => cvr (rw6 (Y (39, 0, 0, 0)) (24 * (10 * d + e) + 6 * fq)) (rw6 (Y (35, 0, 0, 0)) (24 * (10 * o + e) + 6 * fq))) (f + 1)))), (0, .ref (ad (35, 0, 0, 0))), (1, .ref (ad (39, 0, 0, 0))), (3, .int (nI d)), (4, .int (nI o)), (5, .int (nI e))]) hx hb dL_isOld_67 hl (k := 1) rfl (by decide) (by decide) rfl (fun ls hl => ?_)
          refine lv_goto (tgt := 22) hx hb dL_isOld_70 (by decide) ?_
          exact ih22 (f + 1) (by omega) (by omega) H locs ls (h.eq (congrArg (lay tc ad gm dz) rfl)) (lv_sub hl [0, 1, 2, 3, 4, 5, 6] rfl)
