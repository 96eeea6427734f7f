set_option maxHeartbeats 4000000 in
set_option maxRecDepth 100000 in
theorem w_entry_0 {l : Launch} {D : va_G} {tc : TC} {dz : Nat} {ad : KN → Nat} {Ks : List KN} {gm : GM} (I : Mem) (hL : LV gm Ks) {lv mc ms : Nat} (hlv : lv ≤ 11) (x : Int32) {Ψ : Int32 → GM → Mem → Prop} (hM : GI l yX6_entry cX6_entry 2 (some .int) lv mc ms D tc dz ad Ks (lay tc ad gm dz I) [.ref (ad (0, 0, 0, 0)), .int x] (fun r u => OutW tc dz ad Ks (Ψ r) u)) : GH l yL_entry cL_entry 4 [(0, 9, 12, 13), (0, 9, 15, 15)] mc ms D tc dz ad Ks (lay tc ad gm dz I) (.ref (ad (0, 0, 0, 0)) :: ([.int x] ++ [.ref (ad (50, 0, 0, 0))])) (fun r u => r = nI 0 ∧ OutW tc dz ad Ks (fun gm1 I1 => ∃ v I0, Ψ v gm1 I0 ∧ I1 = sset I0 (50, 0, 0, 0) (upd (I0 (50, 0, 0, 0)) 0 v)) u) := by
  intro sz
  refine x_ofH (by decide +kernel) (Nat.le_of_ble_eq_true rfl) (fun pp ee s mm bel meth cd ls X hr htab hz h hl => ?_)
  subst hz
  obtain ⟨hx, hb, hmaxL, hown, hts⟩ := id X.1
  have hl : lv_has ls 4 [(0, .ref (ad (0, 0, 0, 0))), (1, .int x), (2, .ref (ad (50, 0, 0, 0)))] := hl
  refine lv_aload_n hx hb dL_entry_0 rfl (lv_at hl 2 rfl) ?_
  refine lv_iconst (v := nI 0) hx hb dL_entry_1 (by decide) ?_
  refine lv_aload_n hx hb dL_entry_2 rfl (lv_at hl 0 rfl) ?_
  refine lv_iload_n hx hb dL_entry_3 rfl (lv_at hl 1 rfl) ?_
  refine g_doneI X h (x_runV X h (k := (0, 0, 0, 0)) (hM _) F_X6_entry q225 q226 q227 (hL (0, 0, 0, 0) ⟨rfl, rfl, rfl⟩) rfl rfl rfl (by show lv + 1 ≤ 12; omega) (by show 8 + (2 + 11) + 32 * lv ≤ 32 * 12; omega) ⟨Nat.le_of_eq (Nat.zero_add _), Nat.le_of_eq (Nat.zero_add _)⟩ hl.1 (Nat.le_of_ble_eq_true rfl) dL_entry_4 rfl) (fun r u H locs hP h => ?_)
  obtain ⟨ad1, Ks1, st1⟩ := u
  obtain ⟨gm1, I1, hΨ, hL1, hW1, hG1, hk1, hs1⟩ := hP
  have h : Sx D (wA ad Ks s.heap.size) ad1 Ks1 (lay tc ad1 gm1 dz I1) s H locs := h.congr hs1
  refine lv_i2l hx hb dL_entry_7 rfl ?_
  refine o_lastA X h (hL1 (50, 0, 0, 0) ⟨by decide, rfl, rfl, rfl⟩) (hk1 _ (hL (50, 0, 0, 0) ⟨by decide, rfl, rfl, rfl⟩) (by decide)).symm dL_entry_8 (fun H locs h => ?_)
  refine lv_goto (tgt := 18) hx hb dL_entry_9 (by decide) ?_
  refine lv_iconst (v := nI 0) hx hb dL_entry_18 (by decide) ?_
  exact g_iret X h hr rfl ⟨rfl, gm1, _, ⟨r, I1, hΨ, rfl⟩, hL1, hW1, hG1, hk1, fun _ _ => rfl⟩ (Nat.le_of_eq (Nat.zero_add _)) (Nat.le_of_eq (Nat.zero_add _)) dL_entry_19
set_option maxHeartbeats 4000000 in
set_option maxRecDepth 100000 in
theorem w_entry_1 {l : Launch} {D : va_G} {tc : TC} {dz : Nat} {ad : KN → Nat} {Ks : List KN} {gm : GM} (I : Mem) (hL : LV gm Ks) {lv mc ms : Nat} (hlv : lv ≤ 11) (x : Int32) {Ψ : GM → Mem → Prop} (hM : GX l yX6_entry cX6_entry 2 (some .int) lv mc ms D tc dz ad Ks (lay tc ad gm dz I) [.ref (ad (0, 0, 0, 0)), .int x] exI (OutW tc dz ad Ks Ψ)) : GH l yL_entry cL_entry 4 [(0, 9, 12, 13), (0, 9, 15, 15)] mc ms D tc dz ad Ks (lay tc ad gm dz I) (.ref (ad (0, 0, 0, 0)) :: ([.int x] ++ [.ref (ad (50, 0, 0, 0))])) (fun r u => r = nI 1 ∧ OutW tc dz ad Ks Ψ u) := by
  intro sz
  refine x_ofH (by decide +kernel) (Nat.le_of_ble_eq_true rfl) (fun pp ee s mm bel meth cd ls X hr htab hz h hl => ?_)
  subst hz
  obtain ⟨hx, hb, hmaxL, hown, hts⟩ := id X.1
  have hl : lv_has ls 4 [(0, .ref (ad (0, 0, 0, 0))), (1, .int x), (2, .ref (ad (50, 0, 0, 0)))] := hl
  refine lv_aload_n hx hb dL_entry_0 rfl (lv_at hl 2 rfl) ?_
  refine lv_iconst (v := nI 0) hx hb dL_entry_1 (by decide) ?_
  refine lv_aload_n hx hb dL_entry_2 rfl (lv_at hl 0 rfl) ?_
  refine lv_iload_n hx hb dL_entry_3 rfl (lv_at hl 1 rfl) ?_
  refine g_xdone X h (x_xrunV X h (k := (0, 0, 0, 0)) (hM _) F_X6_entry q225 q226 q227 (hL (0, 0, 0, 0) ⟨rfl, rfl, rfl⟩) rfl rfl rfl (by show lv + 1 ≤ 12; omega) (by show 8 + (2 + 11) + 32 * lv ≤ 32 * 12; omega) ⟨Nat.le_of_eq (Nat.zero_add _), Nat.le_of_eq (Nat.zero_add _)⟩ hl.1 (Nat.le_of_ble_eq_true rfl) dL_entry_4 rfl) (fun ce q9 u H locs hP h hcell hcv hccl => ?_)
  refine g_catch X [] ⟨0, 9, 12, 13⟩ [⟨0, 9, 15, 15⟩] htab (fun z hz => absurd hz List.not_mem_nil) ⟨Nat.zero_le _, Nat.le_of_ble_eq_true rfl⟩ (by decide) q223 t237 hcell hcv hccl ?_
  refine lv_astore_n (lv' := [(3, .ref q9), (0, .ref (ad (0, 0, 0, 0))), (1, .int x), (2, .ref (ad (50, 0, 0, 0)))]) hx hb dL_entry_12 rfl hl (by decide) rfl (fun ls hl => ?_)
  refine lv_iconst (v := nI 1) hx hb dL_entry_13 (by decide) ?_
  exact g_iret X h hr rfl ⟨rfl, hP⟩ (Nat.le_of_eq (Nat.zero_add _)) (Nat.le_of_eq (Nat.zero_add _)) dL_entry_14
set_option maxHeartbeats 4000000 in
set_option maxRecDepth 100000 in
theorem w_entry_2 {l : Launch} {D : va_G} {tc : TC} {dz : Nat} {ad : KN → Nat} {Ks : List KN} {gm : GM} (I : Mem) (hL : LV gm Ks) {lv mc ms : Nat} (hlv : lv ≤ 11) (x : Int32) {Ψ : GM → Mem → Prop} (hM : GX l yX6_entry cX6_entry 2 (some .int) lv mc ms D tc dz ad Ks (lay tc ad gm dz I) [.ref (ad (0, 0, 0, 0)), .int x] exS (OutW tc dz ad Ks Ψ)) : GH l yL_entry cL_entry 4 [(0, 9, 12, 13), (0, 9, 15, 15)] mc ms D tc dz ad Ks (lay tc ad gm dz I) (.ref (ad (0, 0, 0, 0)) :: ([.int x] ++ [.ref (ad (50, 0, 0, 0))])) (fun r u => r = nI 2 ∧ OutW tc dz ad Ks Ψ u) := by
  intro sz
  refine x_ofH (by decide +kernel) (Nat.le_of_ble_eq_true rfl) (fun pp ee s mm bel meth cd ls X hr htab hz h hl => ?_)
  subst hz
  obtain ⟨hx, hb, hmaxL, hown, hts⟩ := id X.1
  have hl : lv_has ls 4 [(0, .ref (ad (0, 0, 0, 0))), (1, .int x), (2, .ref (ad (50, 0, 0, 0)))] := hl
  refine lv_aload_n hx hb dL_entry_0 rfl (lv_at hl 2 rfl) ?_
  refine lv_iconst (v := nI 0) hx hb dL_entry_1 (by decide) ?_
  refine lv_aload_n hx hb dL_entry_2 rfl (lv_at hl 0 rfl) ?_
  refine lv_iload_n hx hb dL_entry_3 rfl (lv_at hl 1 rfl) ?_
  refine g_xdone X h (x_xrunV X h (k := (0, 0, 0, 0)) (hM _) F_X6_entry q225 q226 q227 (hL (0, 0, 0, 0) ⟨rfl, rfl, rfl⟩) rfl rfl rfl (by show lv + 1 ≤ 12; omega) (by show 8 + (2 + 11) + 32 * lv ≤ 32 * 12; omega) ⟨Nat.le_of_eq (Nat.zero_add _), Nat.le_of_eq (Nat.zero_add _)⟩ hl.1 (Nat.le_of_ble_eq_true rfl) dL_entry_4 rfl) (fun ce q9 u H locs hP h hcell hcv hccl => ?_)
  refine g_catch X [⟨0, 9, 12, 13⟩] ⟨0, 9, 15, 15⟩ [] htab (fun z hz => by rw [List.mem_singleton.mp hz]; exact ⟨by decide, exI, q223, List.mem_of_getElem? (i := 4) rfl⟩) ⟨Nat.zero_le _, Nat.le_of_ble_eq_true rfl⟩ (by decide) q224 t305 hcell hcv hccl ?_
  refine lv_astore_n (lv' := [(3, .ref q9), (0, .ref (ad (0, 0, 0, 0))), (1, .int x), (2, .ref (ad (50, 0, 0, 0)))]) hx hb dL_entry_15 rfl hl (by decide) rfl (fun ls hl => ?_)
  refine lv_iconst (v := nI 2) hx hb dL_entry_16 (by decide) ?_
  exact g_iret X h hr rfl ⟨rfl, hP⟩ (Nat.le_of_eq (Nat.zero_add _)) (Nat.le_of_eq (Nat.zero_add _)) dL_entry_17
set_option maxHeartbeats 4000000 in
set_option maxRecDepth 100000 in
theorem w_tell_0 {l : Launch} {D : va_G} {tc : TC} {dz : Nat} {ad : KN → Nat} {Ks : List KN} {gm : GM} (I : Mem) (hL : LV gm Ks) {lv mc ms : Nat} (hlv : lv ≤ 11) (x y z w : Int32) {Ψ : Int32 → GM → Mem → Prop} (hM : GI l yX6_tell cX6_tell 6 (some .int) lv mc ms D tc dz ad Ks (lay tc ad gm dz I) [.ref (ad (0, 0, 0, 0)), .int x, .int y, .int z, .int w] (fun r u => OutW tc dz ad Ks (Ψ r) u)) : GH l yL_tell cL_tell 7 [(0, 14, 17, 13), (0, 14, 21, 21), (0, 14, 25, 15)] mc ms D tc dz ad Ks (lay tc ad gm dz I) (.ref (ad (0, 0, 0, 0)) :: ([.int x, .int y, .int z, .int w] ++ [.ref (ad (50, 0, 0, 0))])) (fun r u => r = nI 0 ∧ OutW tc dz ad Ks (fun gm1 I1 => ∃ v I0, Ψ v gm1 I0 ∧ I1 = sset I0 (50, 0, 0, 0) (upd (I0 (50, 0, 0, 0)) 0 v)) u) := by
  intro sz
  refine x_ofH (by decide +kernel) (Nat.le_of_ble_eq_true rfl) (fun pp ee s mm bel meth cd ls X hr htab hz h hl => ?_)
  subst hz
  obtain ⟨hx, hb, hmaxL, hown, hts⟩ := id X.1
  have hl : lv_has ls 7 [(0, .ref (ad (0, 0, 0, 0))), (1, .int x), (2, .int y), (3, .int z), (4, .int w), (5, .ref (ad (50, 0, 0, 0)))] := hl
  refine lv_aload hx hb dL_tell_0 (lv_at hl 5 rfl) ?_
  refine lv_iconst (v := nI 0) hx hb dL_tell_2 (by decide) ?_
  refine lv_aload_n hx hb dL_tell_3 rfl (lv_at hl 0 rfl) ?_
  refine lv_iload_n hx hb dL_tell_4 rfl (lv_at hl 1 rfl) ?_
  refine lv_iload_n hx hb dL_tell_5 rfl (lv_at hl 2 rfl) ?_
  refine lv_iload_n hx hb dL_tell_6 rfl (lv_at hl 3 rfl) ?_
  refine lv_iload hx hb dL_tell_7 (lv_at hl 4 rfl) ?_
  refine g_doneI X h (x_runV X h (k := (0, 0, 0, 0)) (hM _) F_X6_tell q345 q346 q347 (hL (0, 0, 0, 0) ⟨rfl, rfl, rfl⟩) rfl rfl rfl (by show lv + 1 ≤ 12; omega) (by show 8 + (6 + 11) + 32 * lv ≤ 32 * 12; omega) ⟨Nat.le_of_eq (Nat.zero_add _), Nat.le_of_eq (Nat.zero_add _)⟩ hl.1 (Nat.le_of_ble_eq_true rfl) dL_tell_9 rfl) (fun r u H locs hP h => ?_)
  obtain ⟨ad1, Ks1, st1⟩ := u
  obtain ⟨gm1, I1, hΨ, hL1, hW1, hG1, hk1, hs1⟩ := hP
  have h : Sx D (wA ad Ks s.heap.size) ad1 Ks1 (lay tc ad1 gm1 dz I1) s H locs := h.congr hs1
  refine lv_i2l hx hb dL_tell_12 rfl ?_
  refine o_lastA X h (hL1 (50, 0, 0, 0) ⟨by decide, rfl, rfl, rfl⟩) (hk1 _ (hL (50, 0, 0, 0) ⟨by decide, rfl, rfl, rfl⟩) (by decide)).symm dL_tell_13 (fun H locs h => ?_)
  refine lv_goto (tgt := 29) hx hb dL_tell_14 (by decide) ?_
  refine lv_iconst (v := nI 0) hx hb dL_tell_29 (by decide) ?_
  exact g_iret X h hr rfl ⟨rfl, gm1, _, ⟨r, I1, hΨ, rfl⟩, hL1, hW1, hG1, hk1, fun _ _ => rfl⟩ (Nat.le_of_eq (Nat.zero_add _)) (Nat.le_of_eq (Nat.zero_add _)) dL_tell_30
set_option maxHeartbeats 4000000 in
set_option maxRecDepth 100000 in
theorem w_tell_1 {l : Launch} {D : va_G} {tc : TC} {dz : Nat} {ad : KN → Nat} {Ks : List KN} {gm : GM} (I : Mem) (hL : LV gm Ks) {lv mc ms : Nat} (hlv : lv ≤ 11) (x y z w : Int32) {Ψ : GM → Mem → Prop} (hM : GX l yX6_tell cX6_tell 6 (some .int) lv mc ms D tc dz ad Ks (lay tc ad gm dz I) [.ref (ad (0, 0, 0, 0)), .int x, .int y, .int z, .int w] exI (OutW tc dz ad Ks Ψ)) : GH l yL_tell cL_tell 7 [(0, 14, 17, 13), (0, 14, 21, 21), (0, 14, 25, 15)] mc ms D tc dz ad Ks (lay tc ad gm dz I) (.ref (ad (0, 0, 0, 0)) :: ([.int x, .int y, .int z, .int w] ++ [.ref (ad (50, 0, 0, 0))])) (fun r u => r = nI 1 ∧ OutW tc dz ad Ks Ψ u) := by
  intro sz
  refine x_ofH (by decide +kernel) (Nat.le_of_ble_eq_true rfl) (fun pp ee s mm bel meth cd ls X hr htab hz h hl => ?_)
  subst hz
  obtain ⟨hx, hb, hmaxL, hown, hts⟩ := id X.1
  have hl : lv_has ls 7 [(0, .ref (ad (0, 0, 0, 0))), (1, .int x), (2, .int y), (3, .int z), (4, .int w), (5, .ref (ad (50, 0, 0, 0)))] := hl
  refine lv_aload hx hb dL_tell_0 (lv_at hl 5 rfl) ?_
  refine lv_iconst (v := nI 0) hx hb dL_tell_2 (by decide) ?_
  refine lv_aload_n hx hb dL_tell_3 rfl (lv_at hl 0 rfl) ?_
  refine lv_iload_n hx hb dL_tell_4 rfl (lv_at hl 1 rfl) ?_
  refine lv_iload_n hx hb dL_tell_5 rfl (lv_at hl 2 rfl) ?_
  refine lv_iload_n hx hb dL_tell_6 rfl (lv_at hl 3 rfl) ?_
  refine lv_iload hx hb dL_tell_7 (lv_at hl 4 rfl) ?_
  refine g_xdone X h (x_xrunV X h (k := (0, 0, 0, 0)) (hM _) F_X6_tell q345 q346 q347 (hL (0, 0, 0, 0) ⟨rfl, rfl, rfl⟩) rfl rfl rfl (by show lv + 1 ≤ 12; omega) (by show 8 + (6 + 11) + 32 * lv ≤ 32 * 12; omega) ⟨Nat.le_of_eq (Nat.zero_add _), Nat.le_of_eq (Nat.zero_add _)⟩ hl.1 (Nat.le_of_ble_eq_true rfl) dL_tell_9 rfl) (fun ce q9 u H locs hP h hcell hcv hccl => ?_)
  refine g_catch X [] ⟨0, 14, 17, 13⟩ [⟨0, 14, 21, 21⟩, ⟨0, 14, 25, 15⟩] htab (fun z hz => absurd hz List.not_mem_nil) ⟨Nat.zero_le _, Nat.le_of_ble_eq_true rfl⟩ (by decide) q223 t237 hcell hcv hccl ?_
  refine lv_astore (lv' := [(6, .ref q9), (0, .ref (ad (0, 0, 0, 0))), (1, .int x), (2, .int y), (3, .int z), (4, .int w), (5, .ref (ad (50, 0, 0, 0)))]) hx hb dL_tell_17 hl (by decide) rfl (fun ls hl => ?_)
  refine lv_iconst (v := nI 1) hx hb dL_tell_19 (by decide) ?_
  exact g_iret X h hr rfl ⟨rfl, hP⟩ (Nat.le_of_eq (Nat.zero_add _)) (Nat.le_of_eq (Nat.zero_add _)) dL_tell_20
set_option maxHeartbeats 4000000 in
set_option maxRecDepth 100000 in
theorem w_tell_2 {l : Launch} {D : va_G} {tc : TC} {dz : Nat} {ad : KN → Nat} {Ks : List KN} {gm : GM} (I : Mem) (hL : LV gm Ks) {lv mc ms : Nat} (hlv : lv ≤ 11) (x y z w : Int32) {Ψ : GM → Mem → Prop} (hM : GX l yX6_tell cX6_tell 6 (some .int) lv mc ms D tc dz ad Ks (lay tc ad gm dz I) [.ref (ad (0, 0, 0, 0)), .int x, .int y, .int z, .int w] exA (OutW tc dz ad Ks Ψ)) : GH l yL_tell cL_tell 7 [(0, 14, 17, 13), (0, 14, 21, 21), (0, 14, 25, 15)] mc ms D tc dz ad Ks (lay tc ad gm dz I) (.ref (ad (0, 0, 0, 0)) :: ([.int x, .int y, .int z, .int w] ++ [.ref (ad (50, 0, 0, 0))])) (fun r u => r = nI 2 ∧ OutW tc dz ad Ks Ψ u) := by
  intro sz
  refine x_ofH (by decide +kernel) (Nat.le_of_ble_eq_true rfl) (fun pp ee s mm bel meth cd ls X hr htab hz h hl => ?_)
  subst hz
  obtain ⟨hx, hb, hmaxL, hown, hts⟩ := id X.1
  have hl : lv_has ls 7 [(0, .ref (ad (0, 0, 0, 0))), (1, .int x), (2, .int y), (3, .int z), (4, .int w), (5, .ref (ad (50, 0, 0, 0)))] := hl
  refine lv_aload hx hb dL_tell_0 (lv_at hl 5 rfl) ?_
  refine lv_iconst (v := nI 0) hx hb dL_tell_2 (by decide) ?_
  refine lv_aload_n hx hb dL_tell_3 rfl (lv_at hl 0 rfl) ?_
  refine lv_iload_n hx hb dL_tell_4 rfl (lv_at hl 1 rfl) ?_
  refine lv_iload_n hx hb dL_tell_5 rfl (lv_at hl 2 rfl) ?_
  refine lv_iload_n hx hb dL_tell_6 rfl (lv_at hl 3 rfl) ?_
  refine lv_iload hx hb dL_tell_7 (lv_at hl 4 rfl) ?_
  refine g_xdone X h (x_xrunV X h (k := (0, 0, 0, 0)) (hM _) F_X6_tell q345 q346 q347 (hL (0, 0, 0, 0) ⟨rfl, rfl, rfl⟩) rfl rfl rfl (by show lv + 1 ≤ 12; omega) (by show 8 + (6 + 11) + 32 * lv ≤ 32 * 12; omega) ⟨Nat.le_of_eq (Nat.zero_add _), Nat.le_of_eq (Nat.zero_add _)⟩ hl.1 (Nat.le_of_ble_eq_true rfl) dL_tell_9 rfl) (fun ce q9 u H locs hP h hcell hcv hccl => ?_)
  refine g_catch X [⟨0, 14, 17, 13⟩] ⟨0, 14, 21, 21⟩ [⟨0, 14, 25, 15⟩] htab (fun z hz => by rw [List.mem_singleton.mp hz]; exact ⟨by decide, exI, q223, List.mem_of_getElem? (i := 2) rfl⟩) ⟨Nat.zero_le _, Nat.le_of_ble_eq_true rfl⟩ (by decide) q344 t366 hcell hcv hccl ?_
  refine lv_astore (lv' := [(6, .ref q9), (0, .ref (ad (0, 0, 0, 0))), (1, .int x), (2, .int y), (3, .int z), (4, .int w), (5, .ref (ad (50, 0, 0, 0)))]) hx hb dL_tell_21 hl (by decide) rfl (fun ls hl => ?_)
  refine lv_iconst (v := nI 2) hx hb dL_tell_23 (by decide) ?_
  exact g_iret X h hr rfl ⟨rfl, hP⟩ (Nat.le_of_eq (Nat.zero_add _)) (Nat.le_of_eq (Nat.zero_add _)) dL_tell_24
set_option maxHeartbeats 4000000 in
set_option maxRecDepth 100000 in
theorem w_tell_3 {l : Launch} {D : va_G} {tc : TC} {dz : Nat} {ad : KN → Nat} {Ks : List KN} {gm : GM} (I : Mem) (hL : LV gm Ks) {lv mc ms : Nat} (hlv : lv ≤ 11) (x y z w : Int32) {Ψ : GM → Mem → Prop} (hM : GX l yX6_tell cX6_tell 6 (some .int) lv mc ms D tc dz ad Ks (lay tc ad gm dz I) [.ref (ad (0, 0, 0, 0)), .int x, .int y, .int z, .int w] exS (OutW tc dz ad Ks Ψ)) : GH l yL_tell cL_tell 7 [(0, 14, 17, 13), (0, 14, 21, 21), (0, 14, 25, 15)] mc ms D tc dz ad Ks (lay tc ad gm dz I) (.ref (ad (0, 0, 0, 0)) :: ([.int x, .int y, .int z, .int w] ++ [.ref (ad (50, 0, 0, 0))])) (fun r u => r = nI 3 ∧ OutW tc dz ad Ks Ψ u) := by
  intro sz
  refine x_ofH (by decide +kernel) (Nat.le_of_ble_eq_true rfl) (fun pp ee s mm bel meth cd ls X hr htab hz h hl => ?_)
  subst hz
  obtain ⟨hx, hb, hmaxL, hown, hts⟩ := id X.1
  have hl : lv_has ls 7 [(0, .ref (ad (0, 0, 0, 0))), (1, .int x), (2, .int y), (3, .int z), (4, .int w), (5, .ref (ad (50, 0, 0, 0)))] := hl
  refine lv_aload hx hb dL_tell_0 (lv_at hl 5 rfl) ?_
  refine lv_iconst (v := nI 0) hx hb dL_tell_2 (by decide) ?_
  refine lv_aload_n hx hb dL_tell_3 rfl (lv_at hl 0 rfl) ?_
  refine lv_iload_n hx hb dL_tell_4 rfl (lv_at hl 1 rfl) ?_
  refine lv_iload_n hx hb dL_tell_5 rfl (lv_at hl 2 rfl) ?_
  refine lv_iload_n hx hb dL_tell_6 rfl (lv_at hl 3 rfl) ?_
  refine lv_iload hx hb dL_tell_7 (lv_at hl 4 rfl) ?_
  refine g_xdone X h (x_xrunV X h (k := (0, 0, 0, 0)) (hM _) F_X6_tell q345 q346 q347 (hL (0, 0, 0, 0) ⟨rfl, rfl, rfl⟩) rfl rfl rfl (by show lv + 1 ≤ 12; omega) (by show 8 + (6 + 11) + 32 * lv ≤ 32 * 12; omega) ⟨Nat.le_of_eq (Nat.zero_add _), Nat.le_of_eq (Nat.zero_add _)⟩ hl.1 (Nat.le_of_ble_eq_true rfl) dL_tell_9 rfl) (fun ce q9 u H locs hP h hcell hcv hccl => ?_)
  refine g_catch X [⟨0, 14, 17, 13⟩, ⟨0, 14, 21, 21⟩] ⟨0, 14, 25, 15⟩ [] htab (fun z hz => (List.mem_cons.mp hz).elim (fun q => by rw [q]; exact ⟨by decide, exI, q223, List.mem_of_getElem? (i := 4) rfl⟩) (fun q => by rw [List.mem_singleton.mp q]; exact ⟨by decide, exA, q344, List.mem_of_getElem? (i := 5) rfl⟩)) ⟨Nat.zero_le _, Nat.le_of_ble_eq_true rfl⟩ (by decide) q224 t305 hcell hcv hccl ?_
  refine lv_astore (lv' := [(6, .ref q9), (0, .ref (ad (0, 0, 0, 0))), (1, .int x), (2, .int y), (3, .int z), (4, .int w), (5, .ref (ad (50, 0, 0, 0)))]) hx hb dL_tell_25 hl (by decide) rfl (fun ls hl => ?_)
  refine lv_iconst (v := nI 3) hx hb dL_tell_27 (by decide) ?_
  exact g_iret X h hr rfl ⟨rfl, hP⟩ (Nat.le_of_eq (Nat.zero_add _)) (Nat.le_of_eq (Nat.zero_add _)) dL_tell_28
set_option maxHeartbeats 4000000 in
set_option maxRecDepth 100000 in
theorem w_delete_0 {l : Launch} {D : va_G} {tc : TC} {dz : Nat} {ad : KN → Nat} {Ks : List KN} {gm : GM} (I : Mem) (hL : LV gm Ks) {lv mc ms : Nat} (hlv : lv ≤ 11) (x y : Int32) {Ψ : Int32 → GM → Mem → Prop} (hM : GI l yX6_delete cX6_delete 4 (some .int) lv mc ms D tc dz ad Ks (lay tc ad gm dz I) [.ref (ad (0, 0, 0, 0)), .int x, .int y] (fun r u => OutW tc dz ad Ks (Ψ r) u)) : GH l yL_delete cL_delete 5 [(0, 10, 13, 13), (0, 10, 17, 15)] mc ms D tc dz ad Ks (lay tc ad gm dz I) (.ref (ad (0, 0, 0, 0)) :: ([.int x, .int y] ++ [.ref (ad (50, 0, 0, 0))])) (fun r u => r = nI 0 ∧ OutW tc dz ad Ks (fun gm1 I1 => ∃ v I0, Ψ v gm1 I0 ∧ I1 = sset I0 (50, 0, 0, 0) (upd (I0 (50, 0, 0, 0)) 0 v)) u) := by
  intro sz
  refine x_ofH (by decide +kernel) (Nat.le_of_ble_eq_true rfl) (fun pp ee s mm bel meth cd ls X hr htab hz h hl => ?_)
  subst hz
  obtain ⟨hx, hb, hmaxL, hown, hts⟩ := id X.1
  have hl : lv_has ls 5 [(0, .ref (ad (0, 0, 0, 0))), (1, .int x), (2, .int y), (3, .ref (ad (50, 0, 0, 0)))] := hl
  refine lv_aload_n hx hb dL_delete_0 rfl (lv_at hl 3 rfl) ?_
  refine lv_iconst (v := nI 0) hx hb dL_delete_1 (by decide) ?_
  refine lv_aload_n hx hb dL_delete_2 rfl (lv_at hl 0 rfl) ?_
  refine lv_iload_n hx hb dL_delete_3 rfl (lv_at hl 1 rfl) ?_
  refine lv_iload_n hx hb dL_delete_4 rfl (lv_at hl 2 rfl) ?_
  refine g_doneI X h (x_runV X h (k := (0, 0, 0, 0)) (hM _) F_X6_delete q414 q415 q416 (hL (0, 0, 0, 0) ⟨rfl, rfl, rfl⟩) rfl rfl rfl (by show lv + 1 ≤ 12; omega) (by show 8 + (4 + 11) + 32 * lv ≤ 32 * 12; omega) ⟨Nat.le_of_eq (Nat.zero_add _), Nat.le_of_eq (Nat.zero_add _)⟩ hl.1 (Nat.le_of_ble_eq_true rfl) dL_delete_5 rfl) (fun r u H locs hP h => ?_)
  obtain ⟨ad1, Ks1, st1⟩ := u
  obtain ⟨gm1, I1, hΨ, hL1, hW1, hG1, hk1, hs1⟩ := hP
  have h : Sx D (wA ad Ks s.heap.size) ad1 Ks1 (lay tc ad1 gm1 dz I1) s H locs := h.congr hs1
  refine lv_i2l hx hb dL_delete_8 rfl ?_
  refine o_lastA X h (hL1 (50, 0, 0, 0) ⟨by decide, rfl, rfl, rfl⟩) (hk1 _ (hL (50, 0, 0, 0) ⟨by decide, rfl, rfl, rfl⟩) (by decide)).symm dL_delete_9 (fun H locs h => ?_)
  refine lv_goto (tgt := 21) hx hb dL_delete_10 (by decide) ?_
  refine lv_iconst (v := nI 0) hx hb dL_delete_21 (by decide) ?_
  exact g_iret X h hr rfl ⟨rfl, gm1, _, ⟨r, I1, hΨ, rfl⟩, hL1, hW1, hG1, hk1, fun _ _ => rfl⟩ (Nat.le_of_eq (Nat.zero_add _)) (Nat.le_of_eq (Nat.zero_add _)) dL_delete_22
set_option maxHeartbeats 4000000 in
set_option maxRecDepth 100000 in
theorem w_delete_1 {l : Launch} {D : va_G} {tc : TC} {dz : Nat} {ad : KN → Nat} {Ks : List KN} {gm : GM} (I : Mem) (hL : LV gm Ks) {lv mc ms : Nat} (hlv : lv ≤ 11) (x y : Int32) {Ψ : GM → Mem → Prop} (hM : GX l yX6_delete cX6_delete 4 (some .int) lv mc ms D tc dz ad Ks (lay tc ad gm dz I) [.ref (ad (0, 0, 0, 0)), .int x, .int y] exI (OutW tc dz ad Ks Ψ)) : GH l yL_delete cL_delete 5 [(0, 10, 13, 13), (0, 10, 17, 15)] mc ms D tc dz ad Ks (lay tc ad gm dz I) (.ref (ad (0, 0, 0, 0)) :: ([.int x, .int y] ++ [.ref (ad (50, 0, 0, 0))])) (fun r u => r = nI 1 ∧ OutW tc dz ad Ks Ψ u) := by
  intro sz
  refine x_ofH (by decide +kernel) (Nat.le_of_ble_eq_true rfl) (fun pp ee s mm bel meth cd ls X hr htab hz h hl => ?_)
  subst hz
  obtain ⟨hx, hb, hmaxL, hown, hts⟩ := id X.1
  have hl : lv_has ls 5 [(0, .ref (ad (0, 0, 0, 0))), (1, .int x), (2, .int y), (3, .ref (ad (50, 0, 0, 0)))] := hl
  refine lv_aload_n hx hb dL_delete_0 rfl (lv_at hl 3 rfl) ?_
  refine lv_iconst (v := nI 0) hx hb dL_delete_1 (by decide) ?_
  refine lv_aload_n hx hb dL_delete_2 rfl (lv_at hl 0 rfl) ?_
  refine lv_iload_n hx hb dL_delete_3 rfl (lv_at hl 1 rfl) ?_
  refine lv_iload_n hx hb dL_delete_4 rfl (lv_at hl 2 rfl) ?_
  refine g_xdone X h (x_xrunV X h (k := (0, 0, 0, 0)) (hM _) F_X6_delete q414 q415 q416 (hL (0, 0, 0, 0) ⟨rfl, rfl, rfl⟩) rfl rfl rfl (by show lv + 1 ≤ 12; omega) (by show 8 + (4 + 11) + 32 * lv ≤ 32 * 12; omega) ⟨Nat.le_of_eq (Nat.zero_add _), Nat.le_of_eq (Nat.zero_add _)⟩ hl.1 (Nat.le_of_ble_eq_true rfl) dL_delete_5 rfl) (fun ce q9 u H locs hP h hcell hcv hccl => ?_)
  refine g_catch X [] ⟨0, 10, 13, 13⟩ [⟨0, 10, 17, 15⟩] htab (fun z hz => absurd hz List.not_mem_nil) ⟨Nat.zero_le _, Nat.le_of_ble_eq_true rfl⟩ (by decide) q223 t237 hcell hcv hccl ?_
  refine lv_astore (lv' := [(4, .ref q9), (0, .ref (ad (0, 0, 0, 0))), (1, .int x), (2, .int y), (3, .ref (ad (50, 0, 0, 0)))]) hx hb dL_delete_13 hl (by decide) rfl (fun ls hl => ?_)
  refine lv_iconst (v := nI 1) hx hb dL_delete_15 (by decide) ?_
  exact g_iret X h hr rfl ⟨rfl, hP⟩ (Nat.le_of_eq (Nat.zero_add _)) (Nat.le_of_eq (Nat.zero_add _)) dL_delete_16
set_option maxHeartbeats 4000000 in
set_option maxRecDepth 100000 in
theorem w_delete_2 {l : Launch} {D : va_G} {tc : TC} {dz : Nat} {ad : KN → Nat} {Ks : List KN} {gm : GM} (I : Mem) (hL : LV gm Ks) {lv mc ms : Nat} (hlv : lv ≤ 11) (x y : Int32) {Ψ : GM → Mem → Prop} (hM : GX l yX6_delete cX6_delete 4 (some .int) lv mc ms D tc dz ad Ks (lay tc ad gm dz I) [.ref (ad (0, 0, 0, 0)), .int x, .int y] exS (OutW tc dz ad Ks Ψ)) : GH l yL_delete cL_delete 5 [(0, 10, 13, 13), (0, 10, 17, 15)] mc ms D tc dz ad Ks (lay tc ad gm dz I) (.ref (ad (0, 0, 0, 0)) :: ([.int x, .int y] ++ [.ref (ad (50, 0, 0, 0))])) (fun r u => r = nI 2 ∧ OutW tc dz ad Ks Ψ u) := by
  intro sz
  refine x_ofH (by decide +kernel) (Nat.le_of_ble_eq_true rfl) (fun pp ee s mm bel meth cd ls X hr htab hz h hl => ?_)
  subst hz
  obtain ⟨hx, hb, hmaxL, hown, hts⟩ := id X.1
  have hl : lv_has ls 5 [(0, .ref (ad (0, 0, 0, 0))), (1, .int x), (2, .int y), (3, .ref (ad (50, 0, 0, 0)))] := hl
  refine lv_aload_n hx hb dL_delete_0 rfl (lv_at hl 3 rfl) ?_
  refine lv_iconst (v := nI 0) hx hb dL_delete_1 (by decide) ?_
  refine lv_aload_n hx hb dL_delete_2 rfl (lv_at hl 0 rfl) ?_
  refine lv_iload_n hx hb dL_delete_3 rfl (lv_at hl 1 rfl) ?_
  refine lv_iload_n hx hb dL_delete_4 rfl (lv_at hl 2 rfl) ?_
  refine g_xdone X h (x_xrunV X h (k := (0, 0, 0, 0)) (hM _) F_X6_delete q414 q415 q416 (hL (0, 0, 0, 0) ⟨rfl, rfl, rfl⟩) rfl rfl rfl (by show lv + 1 ≤ 12; omega) (by show 8 + (4 + 11) + 32 * lv ≤ 32 * 12; omega) ⟨Nat.le_of_eq (Nat.zero_add _), Nat.le_of_eq (Nat.zero_add _)⟩ hl.1 (Nat.le_of_ble_eq_true rfl) dL_delete_5 rfl) (fun ce q9 u H locs hP h hcell hcv hccl => ?_)
  refine g_catch X [⟨0, 10, 13, 13⟩] ⟨0, 10, 17, 15⟩ [] htab (fun z hz => by rw [List.mem_singleton.mp hz]; exact ⟨by decide, exI, q223, List.mem_of_getElem? (i := 4) rfl⟩) ⟨Nat.zero_le _, Nat.le_of_ble_eq_true rfl⟩ (by decide) q224 t305 hcell hcv hccl ?_
  refine lv_astore (lv' := [(4, .ref q9), (0, .ref (ad (0, 0, 0, 0))), (1, .int x), (2, .int y), (3, .ref (ad (50, 0, 0, 0)))]) hx hb dL_delete_17 hl (by decide) rfl (fun ls hl => ?_)
  refine lv_iconst (v := nI 2) hx hb dL_delete_19 (by decide) ?_
  exact g_iret X h hr rfl ⟨rfl, hP⟩ (Nat.le_of_eq (Nat.zero_add _)) (Nat.le_of_eq (Nat.zero_add _)) dL_delete_20
set_option maxHeartbeats 4000000 in
set_option maxRecDepth 100000 in
theorem w_share_0 {l : Launch} {D : va_G} {tc : TC} {dz : Nat} {ad : KN → Nat} {Ks : List KN} {gm : GM} (I : Mem) (hL : LV gm Ks) {lv mc ms : Nat} (hlv : lv ≤ 11) (x y z w : Int32) {Ψ : Int32 → GM → Mem → Prop} (hM : GI l yX6_share cX6_share 6 (some .int) lv mc ms D tc dz ad Ks (lay tc ad gm dz I) [.ref (ad (0, 0, 0, 0)), .int x, .int y, .int z, .int w] (fun r u => OutW tc dz ad Ks (Ψ r) u)) : GH l yL_share cL_share 7 [(0, 14, 17, 13), (0, 14, 21, 21), (0, 14, 25, 15)] mc ms D tc dz ad Ks (lay tc ad gm dz I) (.ref (ad (0, 0, 0, 0)) :: ([.int x, .int y, .int z, .int w] ++ [.ref (ad (50, 0, 0, 0))])) (fun r u => r = nI 0 ∧ OutW tc dz ad Ks (fun gm1 I1 => ∃ v I0, Ψ v gm1 I0 ∧ I1 = sset I0 (50, 0, 0, 0) (upd (I0 (50, 0, 0, 0)) 0 v)) u) := by
  intro sz
  refine x_ofH (by decide +kernel) (Nat.le_of_ble_eq_true rfl) (fun pp ee s mm bel meth cd ls X hr htab hz h hl => ?_)
  subst hz
  obtain ⟨hx, hb, hmaxL, hown, hts⟩ := id X.1
  have hl : lv_has ls 7 [(0, .ref (ad (0, 0, 0, 0))), (1, .int x), (2, .int y), (3, .int z), (4, .int w), (5, .ref (ad (50, 0, 0, 0)))] := hl
  refine lv_aload hx hb dL_share_0 (lv_at hl 5 rfl) ?_
  refine lv_iconst (v := nI 0) hx hb dL_share_2 (by decide) ?_
  refine lv_aload_n hx hb dL_share_3 rfl (lv_at hl 0 rfl) ?_
  refine lv_iload_n hx hb dL_share_4 rfl (lv_at hl 1 rfl) ?_
  refine lv_iload_n hx hb dL_share_5 rfl (lv_at hl 2 rfl) ?_
  refine lv_iload_n hx hb dL_share_6 rfl (lv_at hl 3 rfl) ?_
  refine lv_iload hx hb dL_share_7 (lv_at hl 4 rfl) ?_
  refine g_doneI X h (x_runV X h (k := (0, 0, 0, 0)) (hM _) F_X6_share q563 q564 q565 (hL (0, 0, 0, 0) ⟨rfl, rfl, rfl⟩) rfl rfl rfl (by show lv + 1 ≤ 12; omega) (by show 8 + (6 + 11) + 32 * lv ≤ 32 * 12; omega) ⟨Nat.le_of_eq (Nat.zero_add _), Nat.le_of_eq (Nat.zero_add _)⟩ hl.1 (Nat.le_of_ble_eq_true rfl) dL_share_9 rfl) (fun r u H locs hP h => ?_)
  obtain ⟨ad1, Ks1, st1⟩ := u
  obtain ⟨gm1, I1, hΨ, hL1, hW1, hG1, hk1, hs1⟩ := hP
  have h : Sx D (wA ad Ks s.heap.size) ad1 Ks1 (lay tc ad1 gm1 dz I1) s H locs := h.congr hs1
  refine lv_i2l hx hb dL_share_12 rfl ?_
  refine o_lastA X h (hL1 (50, 0, 0, 0) ⟨by decide, rfl, rfl, rfl⟩) (hk1 _ (hL (50, 0, 0, 0) ⟨by decide, rfl, rfl, rfl⟩) (by decide)).symm dL_share_13 (fun H locs h => ?_)
  refine lv_goto (tgt := 29) hx hb dL_share_14 (by decide) ?_
  refine lv_iconst (v := nI 0) hx hb dL_share_29 (by decide) ?_
  exact g_iret X h hr rfl ⟨rfl, gm1, _, ⟨r, I1, hΨ, rfl⟩, hL1, hW1, hG1, hk1, fun _ _ => rfl⟩ (Nat.le_of_eq (Nat.zero_add _)) (Nat.le_of_eq (Nat.zero_add _)) dL_share_30
set_option maxHeartbeats 4000000 in
set_option maxRecDepth 100000 in
theorem w_share_1 {l : Launch} {D : va_G} {tc : TC} {dz : Nat} {ad : KN → Nat} {Ks : List KN} {gm : GM} (I : Mem) (hL : LV gm Ks) {lv mc ms : Nat} (hlv : lv ≤ 11) (x y z w : Int32) {Ψ : GM → Mem → Prop} (hM : GX l yX6_share cX6_share 6 (some .int) lv mc ms D tc dz ad Ks (lay tc ad gm dz I) [.ref (ad (0, 0, 0, 0)), .int x, .int y, .int z, .int w] exI (OutW tc dz ad Ks Ψ)) : GH l yL_share cL_share 7 [(0, 14, 17, 13), (0, 14, 21, 21), (0, 14, 25, 15)] mc ms D tc dz ad Ks (lay tc ad gm dz I) (.ref (ad (0, 0, 0, 0)) :: ([.int x, .int y, .int z, .int w] ++ [.ref (ad (50, 0, 0, 0))])) (fun r u => r = nI 1 ∧ OutW tc dz ad Ks Ψ u) := by
  intro sz
  refine x_ofH (by decide +kernel) (Nat.le_of_ble_eq_true rfl) (fun pp ee s mm bel meth cd ls X hr htab hz h hl => ?_)
  subst hz
  obtain ⟨hx, hb, hmaxL, hown, hts⟩ := id X.1
  have hl : lv_has ls 7 [(0, .ref (ad (0, 0, 0, 0))), (1, .int x), (2, .int y), (3, .int z), (4, .int w), (5, .ref (ad (50, 0, 0, 0)))] := hl
  refine lv_aload hx hb dL_share_0 (lv_at hl 5 rfl) ?_
  refine lv_iconst (v := nI 0) hx hb dL_share_2 (by decide) ?_
  refine lv_aload_n hx hb dL_share_3 rfl (lv_at hl 0 rfl) ?_
  refine lv_iload_n hx hb dL_share_4 rfl (lv_at hl 1 rfl) ?_
  refine lv_iload_n hx hb dL_share_5 rfl (lv_at hl 2 rfl) ?_
  refine lv_iload_n hx hb dL_share_6 rfl (lv_at hl 3 rfl) ?_
  refine lv_iload hx hb dL_share_7 (lv_at hl 4 rfl) ?_
  refine g_xdone X h (x_xrunV X h (k := (0, 0, 0, 0)) (hM _) F_X6_share q563 q564 q565 (hL (0, 0, 0, 0) ⟨rfl, rfl, rfl⟩) rfl rfl rfl (by show lv + 1 ≤ 12; omega) (by show 8 + (6 + 11) + 32 * lv ≤ 32 * 12; omega) ⟨Nat.le_of_eq (Nat.zero_add _), Nat.le_of_eq (Nat.zero_add _)⟩ hl.1 (Nat.le_of_ble_eq_true rfl) dL_share_9 rfl) (fun ce q9 u H locs hP h hcell hcv hccl => ?_)
  refine g_catch X [] ⟨0, 14, 17, 13⟩ [⟨0, 14, 21, 21⟩, ⟨0, 14, 25, 15⟩] htab (fun z hz => absurd hz List.not_mem_nil) ⟨Nat.zero_le _, Nat.le_of_ble_eq_true rfl⟩ (by decide) q223 t237 hcell hcv hccl ?_
  refine lv_astore (lv' := [(6, .ref q9), (0, .ref (ad (0, 0, 0, 0))), (1, .int x), (2, .int y), (3, .int z), (4, .int w), (5, .ref (ad (50, 0, 0, 0)))]) hx hb dL_share_17 hl (by decide) rfl (fun ls hl => ?_)
  refine lv_iconst (v := nI 1) hx hb dL_share_19 (by decide) ?_
  exact g_iret X h hr rfl ⟨rfl, hP⟩ (Nat.le_of_eq (Nat.zero_add _)) (Nat.le_of_eq (Nat.zero_add _)) dL_share_20
set_option maxHeartbeats 4000000 in
set_option maxRecDepth 100000 in
theorem w_share_2 {l : Launch} {D : va_G} {tc : TC} {dz : Nat} {ad : KN → Nat} {Ks : List KN} {gm : GM} (I : Mem) (hL : LV gm Ks) {lv mc ms : Nat} (hlv : lv ≤ 11) (x y z w : Int32) {Ψ : GM → Mem → Prop} (hM : GX l yX6_share cX6_share 6 (some .int) lv mc ms D tc dz ad Ks (lay tc ad gm dz I) [.ref (ad (0, 0, 0, 0)), .int x, .int y, .int z, .int w] exA (OutW tc dz ad Ks Ψ)) : GH l yL_share cL_share 7 [(0, 14, 17, 13), (0, 14, 21, 21), (0, 14, 25, 15)] mc ms D tc dz ad Ks (lay tc ad gm dz I) (.ref (ad (0, 0, 0, 0)) :: ([.int x, .int y, .int z, .int w] ++ [.ref (ad (50, 0, 0, 0))])) (fun r u => r = nI 2 ∧ OutW tc dz ad Ks Ψ u) := by
  intro sz
  refine x_ofH (by decide +kernel) (Nat.le_of_ble_eq_true rfl) (fun pp ee s mm bel meth cd ls X hr htab hz h hl => ?_)
  subst hz
  obtain ⟨hx, hb, hmaxL, hown, hts⟩ := id X.1
  have hl : lv_has ls 7 [(0, .ref (ad (0, 0, 0, 0))), (1, .int x), (2, .int y), (3, .int z), (4, .int w), (5, .ref (ad (50, 0, 0, 0)))] := hl
  refine lv_aload hx hb dL_share_0 (lv_at hl 5 rfl) ?_
  refine lv_iconst (v := nI 0) hx hb dL_share_2 (by decide) ?_
  refine lv_aload_n hx hb dL_share_3 rfl (lv_at hl 0 rfl) ?_
  refine lv_iload_n hx hb dL_share_4 rfl (lv_at hl 1 rfl) ?_
  refine lv_iload_n hx hb dL_share_5 rfl (lv_at hl 2 rfl) ?_
  refine lv_iload_n hx hb dL_share_6 rfl (lv_at hl 3 rfl) ?_
  refine lv_iload hx hb dL_share_7 (lv_at hl 4 rfl) ?_
  refine g_xdone X h (x_xrunV X h (k := (0, 0, 0, 0)) (hM _) F_X6_share q563 q564 q565 (hL (0, 0, 0, 0) ⟨rfl, rfl, rfl⟩) rfl rfl rfl (by show lv + 1 ≤ 12; omega) (by show 8 + (6 + 11) + 32 * lv ≤ 32 * 12; omega) ⟨Nat.le_of_eq (Nat.zero_add _), Nat.le_of_eq (Nat.zero_add _)⟩ hl.1 (Nat.le_of_ble_eq_true rfl) dL_share_9 rfl) (fun ce q9 u H locs hP h hcell hcv hccl => ?_)
  refine g_catch X [⟨0, 14, 17, 13⟩] ⟨0, 14, 21, 21⟩ [⟨0, 14, 25, 15⟩] htab (fun z hz => by rw [List.mem_singleton.mp hz]; exact ⟨by decide, exI, q223, List.mem_of_getElem? (i := 2) rfl⟩) ⟨Nat.zero_le _, Nat.le_of_ble_eq_true rfl⟩ (by decide) q344 t366 hcell hcv hccl ?_
  refine lv_astore (lv' := [(6, .ref q9), (0, .ref (ad (0, 0, 0, 0))), (1, .int x), (2, .int y), (3, .int z), (4, .int w), (5, .ref (ad (50, 0, 0, 0)))]) hx hb dL_share_21 hl (by decide) rfl (fun ls hl => ?_)
  refine lv_iconst (v := nI 2) hx hb dL_share_23 (by decide) ?_
  exact g_iret X h hr rfl ⟨rfl, hP⟩ (Nat.le_of_eq (Nat.zero_add _)) (Nat.le_of_eq (Nat.zero_add _)) dL_share_24
set_option maxHeartbeats 4000000 in
set_option maxRecDepth 100000 in
theorem w_share_3 {l : Launch} {D : va_G} {tc : TC} {dz : Nat} {ad : KN → Nat} {Ks : List KN} {gm : GM} (I : Mem) (hL : LV gm Ks) {lv mc ms : Nat} (hlv : lv ≤ 11) (x y z w : Int32) {Ψ : GM → Mem → Prop} (hM : GX l yX6_share cX6_share 6 (some .int) lv mc ms D tc dz ad Ks (lay tc ad gm dz I) [.ref (ad (0, 0, 0, 0)), .int x, .int y, .int z, .int w] exS (OutW tc dz ad Ks Ψ)) : GH l yL_share cL_share 7 [(0, 14, 17, 13), (0, 14, 21, 21), (0, 14, 25, 15)] mc ms D tc dz ad Ks (lay tc ad gm dz I) (.ref (ad (0, 0, 0, 0)) :: ([.int x, .int y, .int z, .int w] ++ [.ref (ad (50, 0, 0, 0))])) (fun r u => r = nI 3 ∧ OutW tc dz ad Ks Ψ u) := by
  intro sz
  refine x_ofH (by decide +kernel) (Nat.le_of_ble_eq_true rfl) (fun pp ee s mm bel meth cd ls X hr htab hz h hl => ?_)
  subst hz
  obtain ⟨hx, hb, hmaxL, hown, hts⟩ := id X.1
  have hl : lv_has ls 7 [(0, .ref (ad (0, 0, 0, 0))), (1, .int x), (2, .int y), (3, .int z), (4, .int w), (5, .ref (ad (50, 0, 0, 0)))] := hl
  refine lv_aload hx hb dL_share_0 (lv_at hl 5 rfl) ?_
  refine lv_iconst (v := nI 0) hx hb dL_share_2 (by decide) ?_
  refine lv_aload_n hx hb dL_share_3 rfl (lv_at hl 0 rfl) ?_
  refine lv_iload_n hx hb dL_share_4 rfl (lv_at hl 1 rfl) ?_
  refine lv_iload_n hx hb dL_share_5 rfl (lv_at hl 2 rfl) ?_
  refine lv_iload_n hx hb dL_share_6 rfl (lv_at hl 3 rfl) ?_
  refine lv_iload hx hb dL_share_7 (lv_at hl 4 rfl) ?_
  refine g_xdone X h (x_xrunV X h (k := (0, 0, 0, 0)) (hM _) F_X6_share q563 q564 q565 (hL (0, 0, 0, 0) ⟨rfl, rfl, rfl⟩) rfl rfl rfl (by show lv + 1 ≤ 12; omega) (by show 8 + (6 + 11) + 32 * lv ≤ 32 * 12; omega) ⟨Nat.le_of_eq (Nat.zero_add _), Nat.le_of_eq (Nat.zero_add _)⟩ hl.1 (Nat.le_of_ble_eq_true rfl) dL_share_9 rfl) (fun ce q9 u H locs hP h hcell hcv hccl => ?_)
  refine g_catch X [⟨0, 14, 17, 13⟩, ⟨0, 14, 21, 21⟩] ⟨0, 14, 25, 15⟩ [] htab (fun z hz => (List.mem_cons.mp hz).elim (fun q => by rw [q]; exact ⟨by decide, exI, q223, List.mem_of_getElem? (i := 4) rfl⟩) (fun q => by rw [List.mem_singleton.mp q]; exact ⟨by decide, exA, q344, List.mem_of_getElem? (i := 5) rfl⟩)) ⟨Nat.zero_le _, Nat.le_of_ble_eq_true rfl⟩ (by decide) q224 t305 hcell hcv hccl ?_
  refine lv_astore (lv' := [(6, .ref q9), (0, .ref (ad (0, 0, 0, 0))), (1, .int x), (2, .int y), (3, .int z), (4, .int w), (5, .ref (ad (50, 0, 0, 0)))]) hx hb dL_share_25 hl (by decide) rfl (fun ls hl => ?_)
  refine lv_iconst (v := nI 3) hx hb dL_share_27 (by decide) ?_
  exact g_iret X h hr rfl ⟨rfl, hP⟩ (Nat.le_of_eq (Nat.zero_add _)) (Nat.le_of_eq (Nat.zero_add _)) dL_share_28
set_option maxHeartbeats 4000000 in
set_option maxRecDepth 100000 in
theorem w_merge_0 {l : Launch} {D : va_G} {tc : TC} {dz : Nat} {ad : KN → Nat} {Ks : List KN} {gm : GM} (I : Mem) (hL : LV gm Ks) {lv mc ms : Nat} (hlv : lv ≤ 11) (x y : Int32) {Ψ : Int32 → GM → Mem → Prop} (hM : GI l yX6_merge cX6_merge 3 (some .int) lv mc ms D tc dz ad Ks (lay tc ad gm dz I) [.ref (ad (0, 0, 0, 0)), .int x, .int y] (fun r u => OutW tc dz ad Ks (Ψ r) u)) : GH l yL_merge cL_merge 5 [(0, 10, 13, 13), (0, 10, 17, 21)] mc ms D tc dz ad Ks (lay tc ad gm dz I) (.ref (ad (0, 0, 0, 0)) :: ([.int x, .int y] ++ [.ref (ad (50, 0, 0, 0))])) (fun r u => r = nI 0 ∧ OutW tc dz ad Ks (fun gm1 I1 => ∃ v I0, Ψ v gm1 I0 ∧ I1 = sset I0 (50, 0, 0, 0) (upd (I0 (50, 0, 0, 0)) 0 v)) u) := by
  intro sz
  refine x_ofH (by decide +kernel) (Nat.le_of_ble_eq_true rfl) (fun pp ee s mm bel meth cd ls X hr htab hz h hl => ?_)
  subst hz
  obtain ⟨hx, hb, hmaxL, hown, hts⟩ := id X.1
  have hl : lv_has ls 5 [(0, .ref (ad (0, 0, 0, 0))), (1, .int x), (2, .int y), (3, .ref (ad (50, 0, 0, 0)))] := hl
  refine lv_aload_n hx hb dL_merge_0 rfl (lv_at hl 3 rfl) ?_
  refine lv_iconst (v := nI 0) hx hb dL_merge_1 (by decide) ?_
  refine lv_aload_n hx hb dL_merge_2 rfl (lv_at hl 0 rfl) ?_
  refine lv_iload_n hx hb dL_merge_3 rfl (lv_at hl 1 rfl) ?_
  refine lv_iload_n hx hb dL_merge_4 rfl (lv_at hl 2 rfl) ?_
  refine g_doneI X h (x_runV X h (k := (0, 0, 0, 0)) (hM _) F_X6_merge q586 q587 q588 (hL (0, 0, 0, 0) ⟨rfl, rfl, rfl⟩) rfl rfl rfl (by show lv + 1 ≤ 12; omega) (by show 8 + (3 + 11) + 32 * lv ≤ 32 * 12; omega) ⟨Nat.le_of_eq (Nat.zero_add _), Nat.le_of_eq (Nat.zero_add _)⟩ hl.1 (Nat.le_of_ble_eq_true rfl) dL_merge_5 rfl) (fun r u H locs hP h => ?_)
  obtain ⟨ad1, Ks1, st1⟩ := u
  obtain ⟨gm1, I1, hΨ, hL1, hW1, hG1, hk1, hs1⟩ := hP
  have h : Sx D (wA ad Ks s.heap.size) ad1 Ks1 (lay tc ad1 gm1 dz I1) s H locs := h.congr hs1
  refine lv_i2l hx hb dL_merge_8 rfl ?_
  refine o_lastA X h (hL1 (50, 0, 0, 0) ⟨by decide, rfl, rfl, rfl⟩) (hk1 _ (hL (50, 0, 0, 0) ⟨by decide, rfl, rfl, rfl⟩) (by decide)).symm dL_merge_9 (fun H locs h => ?_)
  refine lv_goto (tgt := 21) hx hb dL_merge_10 (by decide) ?_
  refine lv_iconst (v := nI 0) hx hb dL_merge_21 (by decide) ?_
  exact g_iret X h hr rfl ⟨rfl, gm1, _, ⟨r, I1, hΨ, rfl⟩, hL1, hW1, hG1, hk1, fun _ _ => rfl⟩ (Nat.le_of_eq (Nat.zero_add _)) (Nat.le_of_eq (Nat.zero_add _)) dL_merge_22
set_option maxHeartbeats 4000000 in
set_option maxRecDepth 100000 in
theorem w_merge_1 {l : Launch} {D : va_G} {tc : TC} {dz : Nat} {ad : KN → Nat} {Ks : List KN} {gm : GM} (I : Mem) (hL : LV gm Ks) {lv mc ms : Nat} (hlv : lv ≤ 11) (x y : Int32) {Ψ : GM → Mem → Prop} (hM : GX l yX6_merge cX6_merge 3 (some .int) lv mc ms D tc dz ad Ks (lay tc ad gm dz I) [.ref (ad (0, 0, 0, 0)), .int x, .int y] exI (OutW tc dz ad Ks Ψ)) : GH l yL_merge cL_merge 5 [(0, 10, 13, 13), (0, 10, 17, 21)] mc ms D tc dz ad Ks (lay tc ad gm dz I) (.ref (ad (0, 0, 0, 0)) :: ([.int x, .int y] ++ [.ref (ad (50, 0, 0, 0))])) (fun r u => r = nI 1 ∧ OutW tc dz ad Ks Ψ u) := by
  intro sz
  refine x_ofH (by decide +kernel) (Nat.le_of_ble_eq_true rfl) (fun pp ee s mm bel meth cd ls X hr htab hz h hl => ?_)
  subst hz
  obtain ⟨hx, hb, hmaxL, hown, hts⟩ := id X.1
  have hl : lv_has ls 5 [(0, .ref (ad (0, 0, 0, 0))), (1, .int x), (2, .int y), (3, .ref (ad (50, 0, 0, 0)))] := hl
  refine lv_aload_n hx hb dL_merge_0 rfl (lv_at hl 3 rfl) ?_
  refine lv_iconst (v := nI 0) hx hb dL_merge_1 (by decide) ?_
  refine lv_aload_n hx hb dL_merge_2 rfl (lv_at hl 0 rfl) ?_
  refine lv_iload_n hx hb dL_merge_3 rfl (lv_at hl 1 rfl) ?_
  refine lv_iload_n hx hb dL_merge_4 rfl (lv_at hl 2 rfl) ?_
  refine g_xdone X h (x_xrunV X h (k := (0, 0, 0, 0)) (hM _) F_X6_merge q586 q587 q588 (hL (0, 0, 0, 0) ⟨rfl, rfl, rfl⟩) rfl rfl rfl (by show lv + 1 ≤ 12; omega) (by show 8 + (3 + 11) + 32 * lv ≤ 32 * 12; omega) ⟨Nat.le_of_eq (Nat.zero_add _), Nat.le_of_eq (Nat.zero_add _)⟩ hl.1 (Nat.le_of_ble_eq_true rfl) dL_merge_5 rfl) (fun ce q9 u H locs hP h hcell hcv hccl => ?_)
  refine g_catch X [] ⟨0, 10, 13, 13⟩ [⟨0, 10, 17, 21⟩] htab (fun z hz => absurd hz List.not_mem_nil) ⟨Nat.zero_le _, Nat.le_of_ble_eq_true rfl⟩ (by decide) q223 t237 hcell hcv hccl ?_
  refine lv_astore (lv' := [(4, .ref q9), (0, .ref (ad (0, 0, 0, 0))), (1, .int x), (2, .int y), (3, .ref (ad (50, 0, 0, 0)))]) hx hb dL_merge_13 hl (by decide) rfl (fun ls hl => ?_)
  refine lv_iconst (v := nI 1) hx hb dL_merge_15 (by decide) ?_
  exact g_iret X h hr rfl ⟨rfl, hP⟩ (Nat.le_of_eq (Nat.zero_add _)) (Nat.le_of_eq (Nat.zero_add _)) dL_merge_16
set_option maxHeartbeats 4000000 in
set_option maxRecDepth 100000 in
theorem w_merge_2 {l : Launch} {D : va_G} {tc : TC} {dz : Nat} {ad : KN → Nat} {Ks : List KN} {gm : GM} (I : Mem) (hL : LV gm Ks) {lv mc ms : Nat} (hlv : lv ≤ 11) (x y : Int32) {Ψ : GM → Mem → Prop} (hM : GX l yX6_merge cX6_merge 3 (some .int) lv mc ms D tc dz ad Ks (lay tc ad gm dz I) [.ref (ad (0, 0, 0, 0)), .int x, .int y] exA (OutW tc dz ad Ks Ψ)) : GH l yL_merge cL_merge 5 [(0, 10, 13, 13), (0, 10, 17, 21)] mc ms D tc dz ad Ks (lay tc ad gm dz I) (.ref (ad (0, 0, 0, 0)) :: ([.int x, .int y] ++ [.ref (ad (50, 0, 0, 0))])) (fun r u => r = nI 2 ∧ OutW tc dz ad Ks Ψ u) := by
  intro sz
  refine x_ofH (by decide +kernel) (Nat.le_of_ble_eq_true rfl) (fun pp ee s mm bel meth cd ls X hr htab hz h hl => ?_)
  subst hz
  obtain ⟨hx, hb, hmaxL, hown, hts⟩ := id X.1
  have hl : lv_has ls 5 [(0, .ref (ad (0, 0, 0, 0))), (1, .int x), (2, .int y), (3, .ref (ad (50, 0, 0, 0)))] := hl
  refine lv_aload_n hx hb dL_merge_0 rfl (lv_at hl 3 rfl) ?_
  refine lv_iconst (v := nI 0) hx hb dL_merge_1 (by decide) ?_
  refine lv_aload_n hx hb dL_merge_2 rfl (lv_at hl 0 rfl) ?_
  refine lv_iload_n hx hb dL_merge_3 rfl (lv_at hl 1 rfl) ?_
  refine lv_iload_n hx hb dL_merge_4 rfl (lv_at hl 2 rfl) ?_
  refine g_xdone X h (x_xrunV X h (k := (0, 0, 0, 0)) (hM _) F_X6_merge q586 q587 q588 (hL (0, 0, 0, 0) ⟨rfl, rfl, rfl⟩) rfl rfl rfl (by show lv + 1 ≤ 12; omega) (by show 8 + (3 + 11) + 32 * lv ≤ 32 * 12; omega) ⟨Nat.le_of_eq (Nat.zero_add _), Nat.le_of_eq (Nat.zero_add _)⟩ hl.1 (Nat.le_of_ble_eq_true rfl) dL_merge_5 rfl) (fun ce q9 u H locs hP h hcell hcv hccl => ?_)
  refine g_catch X [⟨0, 10, 13, 13⟩] ⟨0, 10, 17, 21⟩ [] htab (fun z hz => by rw [List.mem_singleton.mp hz]; exact ⟨by decide, exI, q223, List.mem_of_getElem? (i := 2) rfl⟩) ⟨Nat.zero_le _, Nat.le_of_ble_eq_true rfl⟩ (by decide) q344 t366 hcell hcv hccl ?_
  refine lv_astore (lv' := [(4, .ref q9), (0, .ref (ad (0, 0, 0, 0))), (1, .int x), (2, .int y), (3, .ref (ad (50, 0, 0, 0)))]) hx hb dL_merge_17 hl (by decide) rfl (fun ls hl => ?_)
  refine lv_iconst (v := nI 2) hx hb dL_merge_19 (by decide) ?_
  exact g_iret X h hr rfl ⟨rfl, hP⟩ (Nat.le_of_eq (Nat.zero_add _)) (Nat.le_of_eq (Nat.zero_add _)) dL_merge_20
set_option maxHeartbeats 4000000 in
set_option maxRecDepth 100000 in
theorem w_pass_0 {l : Launch} {D : va_G} {tc : TC} {dz : Nat} {ad : KN → Nat} {Ks : List KN} {gm : GM} (I : Mem) (hL : LV gm Ks) {lv mc ms : Nat} (hlv : lv ≤ 11) (x : Int32) {Ψ : Int32 → GM → Mem → Prop} (hM : GI l yX6_pass cX6_pass 2 (some .int) lv mc ms D tc dz ad Ks (lay tc ad gm dz I) [.ref (ad (0, 0, 0, 0)), .int x] (fun r u => OutW tc dz ad Ks (Ψ r) u)) : GH l yL_pass cL_pass 4 [(0, 9, 12, 21)] mc ms D tc dz ad Ks (lay tc ad gm dz I) (.ref (ad (0, 0, 0, 0)) :: ([.int x] ++ [.ref (ad (50, 0, 0, 0))])) (fun r u => r = nI 0 ∧ OutW tc dz ad Ks (fun gm1 I1 => ∃ v I0, Ψ v gm1 I0 ∧ I1 = sset I0 (50, 0, 0, 0) (upd (I0 (50, 0, 0, 0)) 0 v)) u) := by
  intro sz
  refine x_ofH (by decide +kernel) (Nat.le_of_ble_eq_true rfl) (fun pp ee s mm bel meth cd ls X hr htab hz h hl => ?_)
  subst hz
  obtain ⟨hx, hb, hmaxL, hown, hts⟩ := id X.1
  have hl : lv_has ls 4 [(0, .ref (ad (0, 0, 0, 0))), (1, .int x), (2, .ref (ad (50, 0, 0, 0)))] := hl
  refine lv_aload_n hx hb dL_pass_0 rfl (lv_at hl 2 rfl) ?_
  refine lv_iconst (v := nI 0) hx hb dL_pass_1 (by decide) ?_
  refine lv_aload_n hx hb dL_pass_2 rfl (lv_at hl 0 rfl) ?_
  refine lv_iload_n hx hb dL_pass_3 rfl (lv_at hl 1 rfl) ?_
  refine g_doneI X h (x_runV X h (k := (0, 0, 0, 0)) (hM _) F_X6_pass q637 q638 q639 (hL (0, 0, 0, 0) ⟨rfl, rfl, rfl⟩) rfl rfl rfl (by show lv + 1 ≤ 12; omega) (by show 8 + (2 + 11) + 32 * lv ≤ 32 * 12; omega) ⟨Nat.le_of_eq (Nat.zero_add _), Nat.le_of_eq (Nat.zero_add _)⟩ hl.1 (Nat.le_of_ble_eq_true rfl) dL_pass_4 rfl) (fun r u H locs hP h => ?_)
  obtain ⟨ad1, Ks1, st1⟩ := u
  obtain ⟨gm1, I1, hΨ, hL1, hW1, hG1, hk1, hs1⟩ := hP
  have h : Sx D (wA ad Ks s.heap.size) ad1 Ks1 (lay tc ad1 gm1 dz I1) s H locs := h.congr hs1
  refine lv_i2l hx hb dL_pass_7 rfl ?_
  refine o_lastA X h (hL1 (50, 0, 0, 0) ⟨by decide, rfl, rfl, rfl⟩) (hk1 _ (hL (50, 0, 0, 0) ⟨by decide, rfl, rfl, rfl⟩) (by decide)).symm dL_pass_8 (fun H locs h => ?_)
  refine lv_goto (tgt := 15) hx hb dL_pass_9 (by decide) ?_
  refine lv_iconst (v := nI 0) hx hb dL_pass_15 (by decide) ?_
  exact g_iret X h hr rfl ⟨rfl, gm1, _, ⟨r, I1, hΨ, rfl⟩, hL1, hW1, hG1, hk1, fun _ _ => rfl⟩ (Nat.le_of_eq (Nat.zero_add _)) (Nat.le_of_eq (Nat.zero_add _)) dL_pass_16
set_option maxHeartbeats 4000000 in
set_option maxRecDepth 100000 in
theorem w_pass_1 {l : Launch} {D : va_G} {tc : TC} {dz : Nat} {ad : KN → Nat} {Ks : List KN} {gm : GM} (I : Mem) (hL : LV gm Ks) {lv mc ms : Nat} (hlv : lv ≤ 11) (x : Int32) {Ψ : GM → Mem → Prop} (hM : GX l yX6_pass cX6_pass 2 (some .int) lv mc ms D tc dz ad Ks (lay tc ad gm dz I) [.ref (ad (0, 0, 0, 0)), .int x] exA (OutW tc dz ad Ks Ψ)) : GH l yL_pass cL_pass 4 [(0, 9, 12, 21)] mc ms D tc dz ad Ks (lay tc ad gm dz I) (.ref (ad (0, 0, 0, 0)) :: ([.int x] ++ [.ref (ad (50, 0, 0, 0))])) (fun r u => r = nI 1 ∧ OutW tc dz ad Ks Ψ u) := by
  intro sz
  refine x_ofH (by decide +kernel) (Nat.le_of_ble_eq_true rfl) (fun pp ee s mm bel meth cd ls X hr htab hz h hl => ?_)
  subst hz
  obtain ⟨hx, hb, hmaxL, hown, hts⟩ := id X.1
  have hl : lv_has ls 4 [(0, .ref (ad (0, 0, 0, 0))), (1, .int x), (2, .ref (ad (50, 0, 0, 0)))] := hl
  refine lv_aload_n hx hb dL_pass_0 rfl (lv_at hl 2 rfl) ?_
  refine lv_iconst (v := nI 0) hx hb dL_pass_1 (by decide) ?_
  refine lv_aload_n hx hb dL_pass_2 rfl (lv_at hl 0 rfl) ?_
  refine lv_iload_n hx hb dL_pass_3 rfl (lv_at hl 1 rfl) ?_
  refine g_xdone X h (x_xrunV X h (k := (0, 0, 0, 0)) (hM _) F_X6_pass q637 q638 q639 (hL (0, 0, 0, 0) ⟨rfl, rfl, rfl⟩) rfl rfl rfl (by show lv + 1 ≤ 12; omega) (by show 8 + (2 + 11) + 32 * lv ≤ 32 * 12; omega) ⟨Nat.le_of_eq (Nat.zero_add _), Nat.le_of_eq (Nat.zero_add _)⟩ hl.1 (Nat.le_of_ble_eq_true rfl) dL_pass_4 rfl) (fun ce q9 u H locs hP h hcell hcv hccl => ?_)
  refine g_catch X [] ⟨0, 9, 12, 21⟩ [] htab (fun z hz => absurd hz List.not_mem_nil) ⟨Nat.zero_le _, Nat.le_of_ble_eq_true rfl⟩ (by decide) q344 t366 hcell hcv hccl ?_
  refine lv_astore_n (lv' := [(3, .ref q9), (0, .ref (ad (0, 0, 0, 0))), (1, .int x), (2, .ref (ad (50, 0, 0, 0)))]) hx hb dL_pass_12 rfl hl (by decide) rfl (fun ls hl => ?_)
  refine lv_iconst (v := nI 1) hx hb dL_pass_13 (by decide) ?_
  exact g_iret X h hr rfl ⟨rfl, hP⟩ (Nat.le_of_eq (Nat.zero_add _)) (Nat.le_of_eq (Nat.zero_add _)) dL_pass_14
set_option maxHeartbeats 4000000 in
set_option maxRecDepth 100000 in
theorem w_state_0 {l : Launch} {D : va_G} {tc : TC} {dz : Nat} {ad : KN → Nat} {Ks : List KN} {gm : GM} (I : Mem) (hL : LV gm Ks) {lv mc ms : Nat} (hlv : lv ≤ 11) (x y : Int32) {Ψ : Int32 → GM → Mem → Prop} (hM : GI l yX6_state cX6_state 4 (some .int) lv mc ms D tc dz ad Ks (lay tc ad gm dz I) [.ref (ad (0, 0, 0, 0)), .int x, .int y] (fun r u => OutW tc dz ad Ks (Ψ r) u)) : GH l yL_state cL_state 5 [(0, 10, 13, 13)] mc ms D tc dz ad Ks (lay tc ad gm dz I) (.ref (ad (0, 0, 0, 0)) :: ([.int x, .int y] ++ [.ref (ad (50, 0, 0, 0))])) (fun r u => r = nI 0 ∧ OutW tc dz ad Ks (fun gm1 I1 => ∃ v I0, Ψ v gm1 I0 ∧ I1 = sset I0 (50, 0, 0, 0) (upd (I0 (50, 0, 0, 0)) 0 v)) u) := by
  intro sz
  refine x_ofH (by decide +kernel) (Nat.le_of_ble_eq_true rfl) (fun pp ee s mm bel meth cd ls X hr htab hz h hl => ?_)
  subst hz
  obtain ⟨hx, hb, hmaxL, hown, hts⟩ := id X.1
  have hl : lv_has ls 5 [(0, .ref (ad (0, 0, 0, 0))), (1, .int x), (2, .int y), (3, .ref (ad (50, 0, 0, 0)))] := hl
  refine lv_aload_n hx hb dL_state_0 rfl (lv_at hl 3 rfl) ?_
  refine lv_iconst (v := nI 0) hx hb dL_state_1 (by decide) ?_
  refine lv_aload_n hx hb dL_state_2 rfl (lv_at hl 0 rfl) ?_
  refine lv_iload_n hx hb dL_state_3 rfl (lv_at hl 1 rfl) ?_
  refine lv_iload_n hx hb dL_state_4 rfl (lv_at hl 2 rfl) ?_
  refine g_doneI X h (x_runV X h (k := (0, 0, 0, 0)) (hM _) F_X6_state q659 q660 q661 (hL (0, 0, 0, 0) ⟨rfl, rfl, rfl⟩) rfl rfl rfl (by show lv + 1 ≤ 12; omega) (by show 8 + (4 + 11) + 32 * lv ≤ 32 * 12; omega) ⟨Nat.le_of_eq (Nat.zero_add _), Nat.le_of_eq (Nat.zero_add _)⟩ hl.1 (Nat.le_of_ble_eq_true rfl) dL_state_5 rfl) (fun r u H locs hP h => ?_)
  obtain ⟨ad1, Ks1, st1⟩ := u
  obtain ⟨gm1, I1, hΨ, hL1, hW1, hG1, hk1, hs1⟩ := hP
  have h : Sx D (wA ad Ks s.heap.size) ad1 Ks1 (lay tc ad1 gm1 dz I1) s H locs := h.congr hs1
  refine lv_i2l hx hb dL_state_8 rfl ?_
  refine o_lastA X h (hL1 (50, 0, 0, 0) ⟨by decide, rfl, rfl, rfl⟩) (hk1 _ (hL (50, 0, 0, 0) ⟨by decide, rfl, rfl, rfl⟩) (by decide)).symm dL_state_9 (fun H locs h => ?_)
  refine lv_goto (tgt := 17) hx hb dL_state_10 (by decide) ?_
  refine lv_iconst (v := nI 0) hx hb dL_state_17 (by decide) ?_
  exact g_iret X h hr rfl ⟨rfl, gm1, _, ⟨r, I1, hΨ, rfl⟩, hL1, hW1, hG1, hk1, fun _ _ => rfl⟩ (Nat.le_of_eq (Nat.zero_add _)) (Nat.le_of_eq (Nat.zero_add _)) dL_state_18
set_option maxHeartbeats 4000000 in
set_option maxRecDepth 100000 in
theorem w_state_1 {l : Launch} {D : va_G} {tc : TC} {dz : Nat} {ad : KN → Nat} {Ks : List KN} {gm : GM} (I : Mem) (hL : LV gm Ks) {lv mc ms : Nat} (hlv : lv ≤ 11) (x y : Int32) {Ψ : GM → Mem → Prop} (hM : GX l yX6_state cX6_state 4 (some .int) lv mc ms D tc dz ad Ks (lay tc ad gm dz I) [.ref (ad (0, 0, 0, 0)), .int x, .int y] exI (OutW tc dz ad Ks Ψ)) : GH l yL_state cL_state 5 [(0, 10, 13, 13)] mc ms D tc dz ad Ks (lay tc ad gm dz I) (.ref (ad (0, 0, 0, 0)) :: ([.int x, .int y] ++ [.ref (ad (50, 0, 0, 0))])) (fun r u => r = nI 1 ∧ OutW tc dz ad Ks Ψ u) := by
  intro sz
  refine x_ofH (by decide +kernel) (Nat.le_of_ble_eq_true rfl) (fun pp ee s mm bel meth cd ls X hr htab hz h hl => ?_)
  subst hz
  obtain ⟨hx, hb, hmaxL, hown, hts⟩ := id X.1
  have hl : lv_has ls 5 [(0, .ref (ad (0, 0, 0, 0))), (1, .int x), (2, .int y), (3, .ref (ad (50, 0, 0, 0)))] := hl
  refine lv_aload_n hx hb dL_state_0 rfl (lv_at hl 3 rfl) ?_
  refine lv_iconst (v := nI 0) hx hb dL_state_1 (by decide) ?_
  refine lv_aload_n hx hb dL_state_2 rfl (lv_at hl 0 rfl) ?_
  refine lv_iload_n hx hb dL_state_3 rfl (lv_at hl 1 rfl) ?_
  refine lv_iload_n hx hb dL_state_4 rfl (lv_at hl 2 rfl) ?_
  refine g_xdone X h (x_xrunV X h (k := (0, 0, 0, 0)) (hM _) F_X6_state q659 q660 q661 (hL (0, 0, 0, 0) ⟨rfl, rfl, rfl⟩) rfl rfl rfl (by show lv + 1 ≤ 12; omega) (by show 8 + (4 + 11) + 32 * lv ≤ 32 * 12; omega) ⟨Nat.le_of_eq (Nat.zero_add _), Nat.le_of_eq (Nat.zero_add _)⟩ hl.1 (Nat.le_of_ble_eq_true rfl) dL_state_5 rfl) (fun ce q9 u H locs hP h hcell hcv hccl => ?_)
  refine g_catch X [] ⟨0, 10, 13, 13⟩ [] htab (fun z hz => absurd hz List.not_mem_nil) ⟨Nat.zero_le _, Nat.le_of_ble_eq_true rfl⟩ (by decide) q223 t237 hcell hcv hccl ?_
  refine lv_astore (lv' := [(4, .ref q9), (0, .ref (ad (0, 0, 0, 0))), (1, .int x), (2, .int y), (3, .ref (ad (50, 0, 0, 0)))]) hx hb dL_state_13 hl (by decide) rfl (fun ls hl => ?_)
  refine lv_iconst (v := nI 1) hx hb dL_state_15 (by decide) ?_
  exact g_iret X h hr rfl ⟨rfl, hP⟩ (Nat.le_of_eq (Nat.zero_add _)) (Nat.le_of_eq (Nat.zero_add _)) dL_state_16
set_option maxHeartbeats 4000000 in
set_option maxRecDepth 100000 in
theorem w_value_0 {l : Launch} {D : va_G} {tc : TC} {dz : Nat} {ad : KN → Nat} {Ks : List KN} {gm : GM} (I : Mem) (hL : LV gm Ks) {lv mc ms : Nat} (hlv : lv ≤ 11) (x y z w : Int32) {Ψ : Int32 → GM → Mem → Prop} (hM : GI l yX6_value cX6_value 5 (some .int) lv mc ms D tc dz ad Ks (lay tc ad gm dz I) [.ref (ad (0, 0, 0, 0)), .int x, .int y, .int z, .int w] (fun r u => OutW tc dz ad Ks (Ψ r) u)) : GH l yL_value cL_value 7 [(0, 14, 17, 13)] mc ms D tc dz ad Ks (lay tc ad gm dz I) (.ref (ad (0, 0, 0, 0)) :: ([.int x, .int y, .int z, .int w] ++ [.ref (ad (50, 0, 0, 0))])) (fun r u => r = nI 0 ∧ OutW tc dz ad Ks (fun gm1 I1 => ∃ v I0, Ψ v gm1 I0 ∧ I1 = sset I0 (50, 0, 0, 0) (upd (I0 (50, 0, 0, 0)) 0 v)) u) := by
  intro sz
  refine x_ofH (by decide +kernel) (Nat.le_of_ble_eq_true rfl) (fun pp ee s mm bel meth cd ls X hr htab hz h hl => ?_)
  subst hz
  obtain ⟨hx, hb, hmaxL, hown, hts⟩ := id X.1
  have hl : lv_has ls 7 [(0, .ref (ad (0, 0, 0, 0))), (1, .int x), (2, .int y), (3, .int z), (4, .int w), (5, .ref (ad (50, 0, 0, 0)))] := hl
  refine lv_aload hx hb dL_value_0 (lv_at hl 5 rfl) ?_
  refine lv_iconst (v := nI 0) hx hb dL_value_2 (by decide) ?_
  refine lv_aload_n hx hb dL_value_3 rfl (lv_at hl 0 rfl) ?_
  refine lv_iload_n hx hb dL_value_4 rfl (lv_at hl 1 rfl) ?_
  refine lv_iload_n hx hb dL_value_5 rfl (lv_at hl 2 rfl) ?_
  refine lv_iload_n hx hb dL_value_6 rfl (lv_at hl 3 rfl) ?_
  refine lv_iload hx hb dL_value_7 (lv_at hl 4 rfl) ?_
  refine g_doneI X h (x_runV X h (k := (0, 0, 0, 0)) (hM _) F_X6_value q667 q668 q669 (hL (0, 0, 0, 0) ⟨rfl, rfl, rfl⟩) rfl rfl rfl (by show lv + 1 ≤ 12; omega) (by show 8 + (5 + 11) + 32 * lv ≤ 32 * 12; omega) ⟨Nat.le_of_eq (Nat.zero_add _), Nat.le_of_eq (Nat.zero_add _)⟩ hl.1 (Nat.le_of_ble_eq_true rfl) dL_value_9 rfl) (fun r u H locs hP h => ?_)
  obtain ⟨ad1, Ks1, st1⟩ := u
  obtain ⟨gm1, I1, hΨ, hL1, hW1, hG1, hk1, hs1⟩ := hP
  have h : Sx D (wA ad Ks s.heap.size) ad1 Ks1 (lay tc ad1 gm1 dz I1) s H locs := h.congr hs1
  refine lv_i2l hx hb dL_value_12 rfl ?_
  refine o_lastA X h (hL1 (50, 0, 0, 0) ⟨by decide, rfl, rfl, rfl⟩) (hk1 _ (hL (50, 0, 0, 0) ⟨by decide, rfl, rfl, rfl⟩) (by decide)).symm dL_value_13 (fun H locs h => ?_)
  refine lv_goto (tgt := 21) hx hb dL_value_14 (by decide) ?_
  refine lv_iconst (v := nI 0) hx hb dL_value_21 (by decide) ?_
  exact g_iret X h hr rfl ⟨rfl, gm1, _, ⟨r, I1, hΨ, rfl⟩, hL1, hW1, hG1, hk1, fun _ _ => rfl⟩ (Nat.le_of_eq (Nat.zero_add _)) (Nat.le_of_eq (Nat.zero_add _)) dL_value_22
set_option maxHeartbeats 4000000 in
set_option maxRecDepth 100000 in
theorem w_value_1 {l : Launch} {D : va_G} {tc : TC} {dz : Nat} {ad : KN → Nat} {Ks : List KN} {gm : GM} (I : Mem) (hL : LV gm Ks) {lv mc ms : Nat} (hlv : lv ≤ 11) (x y z w : Int32) {Ψ : GM → Mem → Prop} (hM : GX l yX6_value cX6_value 5 (some .int) lv mc ms D tc dz ad Ks (lay tc ad gm dz I) [.ref (ad (0, 0, 0, 0)), .int x, .int y, .int z, .int w] exI (OutW tc dz ad Ks Ψ)) : GH l yL_value cL_value 7 [(0, 14, 17, 13)] mc ms D tc dz ad Ks (lay tc ad gm dz I) (.ref (ad (0, 0, 0, 0)) :: ([.int x, .int y, .int z, .int w] ++ [.ref (ad (50, 0, 0, 0))])) (fun r u => r = nI 1 ∧ OutW tc dz ad Ks Ψ u) := by
  intro sz
  refine x_ofH (by decide +kernel) (Nat.le_of_ble_eq_true rfl) (fun pp ee s mm bel meth cd ls X hr htab hz h hl => ?_)
  subst hz
  obtain ⟨hx, hb, hmaxL, hown, hts⟩ := id X.1
  have hl : lv_has ls 7 [(0, .ref (ad (0, 0, 0, 0))), (1, .int x), (2, .int y), (3, .int z), (4, .int w), (5, .ref (ad (50, 0, 0, 0)))] := hl
  refine lv_aload hx hb dL_value_0 (lv_at hl 5 rfl) ?_
  refine lv_iconst (v := nI 0) hx hb dL_value_2 (by decide) ?_
  refine lv_aload_n hx hb dL_value_3 rfl (lv_at hl 0 rfl) ?_
  refine lv_iload_n hx hb dL_value_4 rfl (lv_at hl 1 rfl) ?_
  refine lv_iload_n hx hb dL_value_5 rfl (lv_at hl 2 rfl) ?_
  refine lv_iload_n hx hb dL_value_6 rfl (lv_at hl 3 rfl) ?_
  refine lv_iload hx hb dL_value_7 (lv_at hl 4 rfl) ?_
  refine g_xdone X h (x_xrunV X h (k := (0, 0, 0, 0)) (hM _) F_X6_value q667 q668 q669 (hL (0, 0, 0, 0) ⟨rfl, rfl, rfl⟩) rfl rfl rfl (by show lv + 1 ≤ 12; omega) (by show 8 + (5 + 11) + 32 * lv ≤ 32 * 12; omega) ⟨Nat.le_of_eq (Nat.zero_add _), Nat.le_of_eq (Nat.zero_add _)⟩ hl.1 (Nat.le_of_ble_eq_true rfl) dL_value_9 rfl) (fun ce q9 u H locs hP h hcell hcv hccl => ?_)
  refine g_catch X [] ⟨0, 14, 17, 13⟩ [] htab (fun z hz => absurd hz List.not_mem_nil) ⟨Nat.zero_le _, Nat.le_of_ble_eq_true rfl⟩ (by decide) q223 t237 hcell hcv hccl ?_
  refine lv_astore (lv' := [(6, .ref q9), (0, .ref (ad (0, 0, 0, 0))), (1, .int x), (2, .int y), (3, .int z), (4, .int w), (5, .ref (ad (50, 0, 0, 0)))]) hx hb dL_value_17 hl (by decide) rfl (fun ls hl => ?_)
  refine lv_iconst (v := nI 1) hx hb dL_value_19 (by decide) ?_
  exact g_iret X h hr rfl ⟨rfl, hP⟩ (Nat.le_of_eq (Nat.zero_add _)) (Nat.le_of_eq (Nat.zero_add _)) dL_value_20
set_option maxHeartbeats 4000000 in
set_option maxRecDepth 100000 in
theorem w_valueAnew_0 {l : Launch} {D : va_G} {tc : TC} {dz : Nat} {ad : KN → Nat} {Ks : List KN} {gm : GM} (I : Mem) (hL : LV gm Ks) {lv mc ms : Nat} (hlv : lv ≤ 11) (x y z w : Int32) {Ψ : Int32 → GM → Mem → Prop} (hM : GI l yX6_valueAnew cX6_valueAnew 5 (some .int) lv mc ms D tc dz ad Ks (lay tc ad gm dz I) [.ref (ad (0, 0, 0, 0)), .int x, .int y, .int z, .int w] (fun r u => OutW tc dz ad Ks (Ψ r) u)) : GH l yL_valueAnew cL_valueAnew 7 [(0, 14, 17, 13)] mc ms D tc dz ad Ks (lay tc ad gm dz I) (.ref (ad (0, 0, 0, 0)) :: ([.int x, .int y, .int z, .int w] ++ [.ref (ad (50, 0, 0, 0))])) (fun r u => r = nI 0 ∧ OutW tc dz ad Ks (fun gm1 I1 => ∃ v I0, Ψ v gm1 I0 ∧ I1 = sset I0 (50, 0, 0, 0) (upd (I0 (50, 0, 0, 0)) 0 v)) u) := by
  intro sz
  refine x_ofH (by decide +kernel) (Nat.le_of_ble_eq_true rfl) (fun pp ee s mm bel meth cd ls X hr htab hz h hl => ?_)
  subst hz
  obtain ⟨hx, hb, hmaxL, hown, hts⟩ := id X.1
  have hl : lv_has ls 7 [(0, .ref (ad (0, 0, 0, 0))), (1, .int x), (2, .int y), (3, .int z), (4, .int w), (5, .ref (ad (50, 0, 0, 0)))] := hl
  refine lv_aload hx hb dL_valueAnew_0 (lv_at hl 5 rfl) ?_
  refine lv_iconst (v := nI 0) hx hb dL_valueAnew_2 (by decide) ?_
  refine lv_aload_n hx hb dL_valueAnew_3 rfl (lv_at hl 0 rfl) ?_
  refine lv_iload_n hx hb dL_valueAnew_4 rfl (lv_at hl 1 rfl) ?_
  refine lv_iload_n hx hb dL_valueAnew_5 rfl (lv_at hl 2 rfl) ?_
  refine lv_iload_n hx hb dL_valueAnew_6 rfl (lv_at hl 3 rfl) ?_
  refine lv_iload hx hb dL_valueAnew_7 (lv_at hl 4 rfl) ?_
  refine g_doneI X h (x_runV X h (k := (0, 0, 0, 0)) (hM _) F_X6_valueAnew q683 q684 q685 (hL (0, 0, 0, 0) ⟨rfl, rfl, rfl⟩) rfl rfl rfl (by show lv + 1 ≤ 12; omega) (by show 8 + (5 + 11) + 32 * lv ≤ 32 * 12; omega) ⟨Nat.le_of_eq (Nat.zero_add _), Nat.le_of_eq (Nat.zero_add _)⟩ hl.1 (Nat.le_of_ble_eq_true rfl) dL_valueAnew_9 rfl) (fun r u H locs hP h => ?_)
  obtain ⟨ad1, Ks1, st1⟩ := u
  obtain ⟨gm1, I1, hΨ, hL1, hW1, hG1, hk1, hs1⟩ := hP
  have h : Sx D (wA ad Ks s.heap.size) ad1 Ks1 (lay tc ad1 gm1 dz I1) s H locs := h.congr hs1
  refine lv_i2l hx hb dL_valueAnew_12 rfl ?_
  refine o_lastA X h (hL1 (50, 0, 0, 0) ⟨by decide, rfl, rfl, rfl⟩) (hk1 _ (hL (50, 0, 0, 0) ⟨by decide, rfl, rfl, rfl⟩) (by decide)).symm dL_valueAnew_13 (fun H locs h => ?_)
  refine lv_goto (tgt := 21) hx hb dL_valueAnew_14 (by decide) ?_
  refine lv_iconst (v := nI 0) hx hb dL_valueAnew_21 (by decide) ?_
  exact g_iret X h hr rfl ⟨rfl, gm1, _, ⟨r, I1, hΨ, rfl⟩, hL1, hW1, hG1, hk1, fun _ _ => rfl⟩ (Nat.le_of_eq (Nat.zero_add _)) (Nat.le_of_eq (Nat.zero_add _)) dL_valueAnew_22
set_option maxHeartbeats 4000000 in
set_option maxRecDepth 100000 in
theorem w_valueAnew_1 {l : Launch} {D : va_G} {tc : TC} {dz : Nat} {ad : KN → Nat} {Ks : List KN} {gm : GM} (I : Mem) (hL : LV gm Ks) {lv mc ms : Nat} (hlv : lv ≤ 11) (x y z w : Int32) {Ψ : GM → Mem → Prop} (hM : GX l yX6_valueAnew cX6_valueAnew 5 (some .int) lv mc ms D tc dz ad Ks (lay tc ad gm dz I) [.ref (ad (0, 0, 0, 0)), .int x, .int y, .int z, .int w] exI (OutW tc dz ad Ks Ψ)) : GH l yL_valueAnew cL_valueAnew 7 [(0, 14, 17, 13)] mc ms D tc dz ad Ks (lay tc ad gm dz I) (.ref (ad (0, 0, 0, 0)) :: ([.int x, .int y, .int z, .int w] ++ [.ref (ad (50, 0, 0, 0))])) (fun r u => r = nI 1 ∧ OutW tc dz ad Ks Ψ u) := by
  intro sz
  refine x_ofH (by decide +kernel) (Nat.le_of_ble_eq_true rfl) (fun pp ee s mm bel meth cd ls X hr htab hz h hl => ?_)
  subst hz
  obtain ⟨hx, hb, hmaxL, hown, hts⟩ := id X.1
  have hl : lv_has ls 7 [(0, .ref (ad (0, 0, 0, 0))), (1, .int x), (2, .int y), (3, .int z), (4, .int w), (5, .ref (ad (50, 0, 0, 0)))] := hl
  refine lv_aload hx hb dL_valueAnew_0 (lv_at hl 5 rfl) ?_
  refine lv_iconst (v := nI 0) hx hb dL_valueAnew_2 (by decide) ?_
  refine lv_aload_n hx hb dL_valueAnew_3 rfl (lv_at hl 0 rfl) ?_
  refine lv_iload_n hx hb dL_valueAnew_4 rfl (lv_at hl 1 rfl) ?_
  refine lv_iload_n hx hb dL_valueAnew_5 rfl (lv_at hl 2 rfl) ?_
  refine lv_iload_n hx hb dL_valueAnew_6 rfl (lv_at hl 3 rfl) ?_
  refine lv_iload hx hb dL_valueAnew_7 (lv_at hl 4 rfl) ?_
  refine g_xdone X h (x_xrunV X h (k := (0, 0, 0, 0)) (hM _) F_X6_valueAnew q683 q684 q685 (hL (0, 0, 0, 0) ⟨rfl, rfl, rfl⟩) rfl rfl rfl (by show lv + 1 ≤ 12; omega) (by show 8 + (5 + 11) + 32 * lv ≤ 32 * 12; omega) ⟨Nat.le_of_eq (Nat.zero_add _), Nat.le_of_eq (Nat.zero_add _)⟩ hl.1 (Nat.le_of_ble_eq_true rfl) dL_valueAnew_9 rfl) (fun ce q9 u H locs hP h hcell hcv hccl => ?_)
  refine g_catch X [] ⟨0, 14, 17, 13⟩ [] htab (fun z hz => absurd hz List.not_mem_nil) ⟨Nat.zero_le _, Nat.le_of_ble_eq_true rfl⟩ (by decide) q223 t237 hcell hcv hccl ?_
  refine lv_astore (lv' := [(6, .ref q9), (0, .ref (ad (0, 0, 0, 0))), (1, .int x), (2, .int y), (3, .int z), (4, .int w), (5, .ref (ad (50, 0, 0, 0)))]) hx hb dL_valueAnew_17 hl (by decide) rfl (fun ls hl => ?_)
  refine lv_iconst (v := nI 1) hx hb dL_valueAnew_19 (by decide) ?_
  exact g_iret X h hr rfl ⟨rfl, hP⟩ (Nat.le_of_eq (Nat.zero_add _)) (Nat.le_of_eq (Nat.zero_add _)) dL_valueAnew_20
set_option maxHeartbeats 4000000 in
set_option maxRecDepth 100000 in
theorem w_values_0 {l : Launch} {D : va_G} {tc : TC} {dz : Nat} {ad : KN → Nat} {Ks : List KN} {gm : GM} (I : Mem) (hL : LV gm Ks) {lv mc ms : Nat} (hlv : lv ≤ 11) (x y z : Int32) {Ψ : Int32 → GM → Mem → Prop} (hM : GI l yX6_values cX6_values 5 (some .int) lv mc ms D tc dz ad Ks (lay tc ad gm dz I) [.ref (ad (0, 0, 0, 0)), .int x, .int y, .int z] (fun r u => OutW tc dz ad Ks (Ψ r) u)) : GH l yL_values cL_values 6 [(0, 12, 15, 13)] mc ms D tc dz ad Ks (lay tc ad gm dz I) (.ref (ad (0, 0, 0, 0)) :: ([.int x, .int y, .int z] ++ [.ref (ad (50, 0, 0, 0))])) (fun r u => r = nI 0 ∧ OutW tc dz ad Ks (fun gm1 I1 => ∃ v I0, Ψ v gm1 I0 ∧ I1 = sset I0 (50, 0, 0, 0) (upd (I0 (50, 0, 0, 0)) 0 v)) u) := by
  intro sz
  refine x_ofH (by decide +kernel) (Nat.le_of_ble_eq_true rfl) (fun pp ee s mm bel meth cd ls X hr htab hz h hl => ?_)
  subst hz
  obtain ⟨hx, hb, hmaxL, hown, hts⟩ := id X.1
  have hl : lv_has ls 6 [(0, .ref (ad (0, 0, 0, 0))), (1, .int x), (2, .int y), (3, .int z), (4, .ref (ad (50, 0, 0, 0)))] := hl
  refine lv_aload hx hb dL_values_0 (lv_at hl 4 rfl) ?_
  refine lv_iconst (v := nI 0) hx hb dL_values_2 (by decide) ?_
  refine lv_aload_n hx hb dL_values_3 rfl (lv_at hl 0 rfl) ?_
  refine lv_iload_n hx hb dL_values_4 rfl (lv_at hl 1 rfl) ?_
  refine lv_iload_n hx hb dL_values_5 rfl (lv_at hl 2 rfl) ?_
  refine lv_iload_n hx hb dL_values_6 rfl (lv_at hl 3 rfl) ?_
  refine g_doneI X h (x_runV X h (k := (0, 0, 0, 0)) (hM _) F_X6_values q714 q715 q716 (hL (0, 0, 0, 0) ⟨rfl, rfl, rfl⟩) rfl rfl rfl (by show lv + 1 ≤ 12; omega) (by show 8 + (5 + 11) + 32 * lv ≤ 32 * 12; omega) ⟨Nat.le_of_eq (Nat.zero_add _), Nat.le_of_eq (Nat.zero_add _)⟩ hl.1 (Nat.le_of_ble_eq_true rfl) dL_values_7 rfl) (fun r u H locs hP h => ?_)
  obtain ⟨ad1, Ks1, st1⟩ := u
  obtain ⟨gm1, I1, hΨ, hL1, hW1, hG1, hk1, hs1⟩ := hP
  have h : Sx D (wA ad Ks s.heap.size) ad1 Ks1 (lay tc ad1 gm1 dz I1) s H locs := h.congr hs1
  refine lv_i2l hx hb dL_values_10 rfl ?_
  refine o_lastA X h (hL1 (50, 0, 0, 0) ⟨by decide, rfl, rfl, rfl⟩) (hk1 _ (hL (50, 0, 0, 0) ⟨by decide, rfl, rfl, rfl⟩) (by decide)).symm dL_values_11 (fun H locs h => ?_)
  refine lv_goto (tgt := 19) hx hb dL_values_12 (by decide) ?_
  refine lv_iconst (v := nI 0) hx hb dL_values_19 (by decide) ?_
  exact g_iret X h hr rfl ⟨rfl, gm1, _, ⟨r, I1, hΨ, rfl⟩, hL1, hW1, hG1, hk1, fun _ _ => rfl⟩ (Nat.le_of_eq (Nat.zero_add _)) (Nat.le_of_eq (Nat.zero_add _)) dL_values_20
set_option maxHeartbeats 4000000 in
set_option maxRecDepth 100000 in
theorem w_values_1 {l : Launch} {D : va_G} {tc : TC} {dz : Nat} {ad : KN → Nat} {Ks : List KN} {gm : GM} (I : Mem) (hL : LV gm Ks) {lv mc ms : Nat} (hlv : lv ≤ 11) (x y z : Int32) {Ψ : GM → Mem → Prop} (hM : GX l yX6_values cX6_values 5 (some .int) lv mc ms D tc dz ad Ks (lay tc ad gm dz I) [.ref (ad (0, 0, 0, 0)), .int x, .int y, .int z] exI (OutW tc dz ad Ks Ψ)) : GH l yL_values cL_values 6 [(0, 12, 15, 13)] mc ms D tc dz ad Ks (lay tc ad gm dz I) (.ref (ad (0, 0, 0, 0)) :: ([.int x, .int y, .int z] ++ [.ref (ad (50, 0, 0, 0))])) (fun r u => r = nI 1 ∧ OutW tc dz ad Ks Ψ u) := by
  intro sz
  refine x_ofH (by decide +kernel) (Nat.le_of_ble_eq_true rfl) (fun pp ee s mm bel meth cd ls X hr htab hz h hl => ?_)
  subst hz
  obtain ⟨hx, hb, hmaxL, hown, hts⟩ := id X.1
  have hl : lv_has ls 6 [(0, .ref (ad (0, 0, 0, 0))), (1, .int x), (2, .int y), (3, .int z), (4, .ref (ad (50, 0, 0, 0)))] := hl
  refine lv_aload hx hb dL_values_0 (lv_at hl 4 rfl) ?_
  refine lv_iconst (v := nI 0) hx hb dL_values_2 (by decide) ?_
  refine lv_aload_n hx hb dL_values_3 rfl (lv_at hl 0 rfl) ?_
  refine lv_iload_n hx hb dL_values_4 rfl (lv_at hl 1 rfl) ?_
  refine lv_iload_n hx hb dL_values_5 rfl (lv_at hl 2 rfl) ?_
  refine lv_iload_n hx hb dL_values_6 rfl (lv_at hl 3 rfl) ?_
  refine g_xdone X h (x_xrunV X h (k := (0, 0, 0, 0)) (hM _) F_X6_values q714 q715 q716 (hL (0, 0, 0, 0) ⟨rfl, rfl, rfl⟩) rfl rfl rfl (by show lv + 1 ≤ 12; omega) (by show 8 + (5 + 11) + 32 * lv ≤ 32 * 12; omega) ⟨Nat.le_of_eq (Nat.zero_add _), Nat.le_of_eq (Nat.zero_add _)⟩ hl.1 (Nat.le_of_ble_eq_true rfl) dL_values_7 rfl) (fun ce q9 u H locs hP h hcell hcv hccl => ?_)
  refine g_catch X [] ⟨0, 12, 15, 13⟩ [] htab (fun z hz => absurd hz List.not_mem_nil) ⟨Nat.zero_le _, Nat.le_of_ble_eq_true rfl⟩ (by decide) q223 t237 hcell hcv hccl ?_
  refine lv_astore (lv' := [(5, .ref q9), (0, .ref (ad (0, 0, 0, 0))), (1, .int x), (2, .int y), (3, .int z), (4, .ref (ad (50, 0, 0, 0)))]) hx hb dL_values_15 hl (by decide) rfl (fun ls hl => ?_)
  refine lv_iconst (v := nI 1) hx hb dL_values_17 (by decide) ?_
  exact g_iret X h hr rfl ⟨rfl, hP⟩ (Nat.le_of_eq (Nat.zero_add _)) (Nat.le_of_eq (Nat.zero_add _)) dL_values_18
set_option maxHeartbeats 4000000 in
set_option maxRecDepth 100000 in
theorem w_seen_0 {l : Launch} {D : va_G} {tc : TC} {dz : Nat} {ad : KN → Nat} {Ks : List KN} {gm : GM} (I : Mem) (hL : LV gm Ks) {lv mc ms : Nat} (hlv : lv ≤ 11) (x y z w : Int32) {Ψ : Int32 → GM → Mem → Prop} (hM : GI l yX6_seen cX6_seen 6 (some .int) lv mc ms D tc dz ad Ks (lay tc ad gm dz I) [.ref (ad (0, 0, 0, 0)), .int x, .int y, .int z, .int w] (fun r u => OutW tc dz ad Ks (Ψ r) u)) : GH l yL_seen cL_seen 7 [(0, 14, 17, 13)] mc ms D tc dz ad Ks (lay tc ad gm dz I) (.ref (ad (0, 0, 0, 0)) :: ([.int x, .int y, .int z, .int w] ++ [.ref (ad (50, 0, 0, 0))])) (fun r u => r = nI 0 ∧ OutW tc dz ad Ks (fun gm1 I1 => ∃ v I0, Ψ v gm1 I0 ∧ I1 = sset I0 (50, 0, 0, 0) (upd (I0 (50, 0, 0, 0)) 0 v)) u) := by
  intro sz
  refine x_ofH (by decide +kernel) (Nat.le_of_ble_eq_true rfl) (fun pp ee s mm bel meth cd ls X hr htab hz h hl => ?_)
  subst hz
  obtain ⟨hx, hb, hmaxL, hown, hts⟩ := id X.1
  have hl : lv_has ls 7 [(0, .ref (ad (0, 0, 0, 0))), (1, .int x), (2, .int y), (3, .int z), (4, .int w), (5, .ref (ad (50, 0, 0, 0)))] := hl
  refine lv_aload hx hb dL_seen_0 (lv_at hl 5 rfl) ?_
  refine lv_iconst (v := nI 0) hx hb dL_seen_2 (by decide) ?_
  refine lv_aload_n hx hb dL_seen_3 rfl (lv_at hl 0 rfl) ?_
  refine lv_iload_n hx hb dL_seen_4 rfl (lv_at hl 1 rfl) ?_
  refine lv_iload_n hx hb dL_seen_5 rfl (lv_at hl 2 rfl) ?_
  refine lv_iload_n hx hb dL_seen_6 rfl (lv_at hl 3 rfl) ?_
  refine lv_iload hx hb dL_seen_7 (lv_at hl 4 rfl) ?_
  refine g_doneI X h (x_runV X h (k := (0, 0, 0, 0)) (hM _) F_X6_seen q721 q722 q723 (hL (0, 0, 0, 0) ⟨rfl, rfl, rfl⟩) rfl rfl rfl (by show lv + 1 ≤ 12; omega) (by show 8 + (6 + 11) + 32 * lv ≤ 32 * 12; omega) ⟨Nat.le_of_eq (Nat.zero_add _), Nat.le_of_eq (Nat.zero_add _)⟩ hl.1 (Nat.le_of_ble_eq_true rfl) dL_seen_9 rfl) (fun r u H locs hP h => ?_)
  obtain ⟨ad1, Ks1, st1⟩ := u
  obtain ⟨gm1, I1, hΨ, hL1, hW1, hG1, hk1, hs1⟩ := hP
  have h : Sx D (wA ad Ks s.heap.size) ad1 Ks1 (lay tc ad1 gm1 dz I1) s H locs := h.congr hs1
  refine lv_i2l hx hb dL_seen_12 rfl ?_
  refine o_lastA X h (hL1 (50, 0, 0, 0) ⟨by decide, rfl, rfl, rfl⟩) (hk1 _ (hL (50, 0, 0, 0) ⟨by decide, rfl, rfl, rfl⟩) (by decide)).symm dL_seen_13 (fun H locs h => ?_)
  refine lv_goto (tgt := 21) hx hb dL_seen_14 (by decide) ?_
  refine lv_iconst (v := nI 0) hx hb dL_seen_21 (by decide) ?_
  exact g_iret X h hr rfl ⟨rfl, gm1, _, ⟨r, I1, hΨ, rfl⟩, hL1, hW1, hG1, hk1, fun _ _ => rfl⟩ (Nat.le_of_eq (Nat.zero_add _)) (Nat.le_of_eq (Nat.zero_add _)) dL_seen_22
set_option maxHeartbeats 4000000 in
set_option maxRecDepth 100000 in
theorem w_seen_1 {l : Launch} {D : va_G} {tc : TC} {dz : Nat} {ad : KN → Nat} {Ks : List KN} {gm : GM} (I : Mem) (hL : LV gm Ks) {lv mc ms : Nat} (hlv : lv ≤ 11) (x y z w : Int32) {Ψ : GM → Mem → Prop} (hM : GX l yX6_seen cX6_seen 6 (some .int) lv mc ms D tc dz ad Ks (lay tc ad gm dz I) [.ref (ad (0, 0, 0, 0)), .int x, .int y, .int z, .int w] exI (OutW tc dz ad Ks Ψ)) : GH l yL_seen cL_seen 7 [(0, 14, 17, 13)] mc ms D tc dz ad Ks (lay tc ad gm dz I) (.ref (ad (0, 0, 0, 0)) :: ([.int x, .int y, .int z, .int w] ++ [.ref (ad (50, 0, 0, 0))])) (fun r u => r = nI 1 ∧ OutW tc dz ad Ks Ψ u) := by
  intro sz
  refine x_ofH (by decide +kernel) (Nat.le_of_ble_eq_true rfl) (fun pp ee s mm bel meth cd ls X hr htab hz h hl => ?_)
  subst hz
  obtain ⟨hx, hb, hmaxL, hown, hts⟩ := id X.1
  have hl : lv_has ls 7 [(0, .ref (ad (0, 0, 0, 0))), (1, .int x), (2, .int y), (3, .int z), (4, .int w), (5, .ref (ad (50, 0, 0, 0)))] := hl
  refine lv_aload hx hb dL_seen_0 (lv_at hl 5 rfl) ?_
  refine lv_iconst (v := nI 0) hx hb dL_seen_2 (by decide) ?_
  refine lv_aload_n hx hb dL_seen_3 rfl (lv_at hl 0 rfl) ?_
  refine lv_iload_n hx hb dL_seen_4 rfl (lv_at hl 1 rfl) ?_
  refine lv_iload_n hx hb dL_seen_5 rfl (lv_at hl 2 rfl) ?_
  refine lv_iload_n hx hb dL_seen_6 rfl (lv_at hl 3 rfl) ?_
  refine lv_iload hx hb dL_seen_7 (lv_at hl 4 rfl) ?_
  refine g_xdone X h (x_xrunV X h (k := (0, 0, 0, 0)) (hM _) F_X6_seen q721 q722 q723 (hL (0, 0, 0, 0) ⟨rfl, rfl, rfl⟩) rfl rfl rfl (by show lv + 1 ≤ 12; omega) (by show 8 + (6 + 11) + 32 * lv ≤ 32 * 12; omega) ⟨Nat.le_of_eq (Nat.zero_add _), Nat.le_of_eq (Nat.zero_add _)⟩ hl.1 (Nat.le_of_ble_eq_true rfl) dL_seen_9 rfl) (fun ce q9 u H locs hP h hcell hcv hccl => ?_)
  refine g_catch X [] ⟨0, 14, 17, 13⟩ [] htab (fun z hz => absurd hz List.not_mem_nil) ⟨Nat.zero_le _, Nat.le_of_ble_eq_true rfl⟩ (by decide) q223 t237 hcell hcv hccl ?_
  refine lv_astore (lv' := [(6, .ref q9), (0, .ref (ad (0, 0, 0, 0))), (1, .int x), (2, .int y), (3, .int z), (4, .int w), (5, .ref (ad (50, 0, 0, 0)))]) hx hb dL_seen_17 hl (by decide) rfl (fun ls hl => ?_)
  refine lv_iconst (v := nI 1) hx hb dL_seen_19 (by decide) ?_
  exact g_iret X h hr rfl ⟨rfl, hP⟩ (Nat.le_of_eq (Nat.zero_add _)) (Nat.le_of_eq (Nat.zero_add _)) dL_seen_20
set_option maxHeartbeats 4000000 in
set_option maxRecDepth 100000 in
theorem w_marks_0 {l : Launch} {D : va_G} {tc : TC} {dz : Nat} {ad : KN → Nat} {Ks : List KN} {gm : GM} (I : Mem) (hL : LV gm Ks) {lv mc ms : Nat} (hlv : lv ≤ 11) (x y : Int32) {Ψ : Int32 → GM → Mem → Prop} (hM : GI l yX6_marks cX6_marks 6 (some .int) lv mc ms D tc dz ad Ks (lay tc ad gm dz I) [.ref (ad (0, 0, 0, 0)), .int x, .int y] (fun r u => OutW tc dz ad Ks (Ψ r) u)) : GH l yL_marks cL_marks 5 [(0, 10, 13, 13)] mc ms D tc dz ad Ks (lay tc ad gm dz I) (.ref (ad (0, 0, 0, 0)) :: ([.int x, .int y] ++ [.ref (ad (50, 0, 0, 0))])) (fun r u => r = nI 0 ∧ OutW tc dz ad Ks (fun gm1 I1 => ∃ v I0, Ψ v gm1 I0 ∧ I1 = sset I0 (50, 0, 0, 0) (upd (I0 (50, 0, 0, 0)) 0 v)) u) := by
  intro sz
  refine x_ofH (by decide +kernel) (Nat.le_of_ble_eq_true rfl) (fun pp ee s mm bel meth cd ls X hr htab hz h hl => ?_)
  subst hz
  obtain ⟨hx, hb, hmaxL, hown, hts⟩ := id X.1
  have hl : lv_has ls 5 [(0, .ref (ad (0, 0, 0, 0))), (1, .int x), (2, .int y), (3, .ref (ad (50, 0, 0, 0)))] := hl
  refine lv_aload_n hx hb dL_marks_0 rfl (lv_at hl 3 rfl) ?_
  refine lv_iconst (v := nI 0) hx hb dL_marks_1 (by decide) ?_
  refine lv_aload_n hx hb dL_marks_2 rfl (lv_at hl 0 rfl) ?_
  refine lv_iload_n hx hb dL_marks_3 rfl (lv_at hl 1 rfl) ?_
  refine lv_iload_n hx hb dL_marks_4 rfl (lv_at hl 2 rfl) ?_
  refine g_doneI X h (x_runV X h (k := (0, 0, 0, 0)) (hM _) F_X6_marks q729 q730 q731 (hL (0, 0, 0, 0) ⟨rfl, rfl, rfl⟩) rfl rfl rfl (by show lv + 1 ≤ 12; omega) (by show 8 + (6 + 11) + 32 * lv ≤ 32 * 12; omega) ⟨Nat.le_of_eq (Nat.zero_add _), Nat.le_of_eq (Nat.zero_add _)⟩ hl.1 (Nat.le_of_ble_eq_true rfl) dL_marks_5 rfl) (fun r u H locs hP h => ?_)
  obtain ⟨ad1, Ks1, st1⟩ := u
  obtain ⟨gm1, I1, hΨ, hL1, hW1, hG1, hk1, hs1⟩ := hP
  have h : Sx D (wA ad Ks s.heap.size) ad1 Ks1 (lay tc ad1 gm1 dz I1) s H locs := h.congr hs1
  refine lv_i2l hx hb dL_marks_8 rfl ?_
  refine o_lastA X h (hL1 (50, 0, 0, 0) ⟨by decide, rfl, rfl, rfl⟩) (hk1 _ (hL (50, 0, 0, 0) ⟨by decide, rfl, rfl, rfl⟩) (by decide)).symm dL_marks_9 (fun H locs h => ?_)
  refine lv_goto (tgt := 17) hx hb dL_marks_10 (by decide) ?_
  refine lv_iconst (v := nI 0) hx hb dL_marks_17 (by decide) ?_
  exact g_iret X h hr rfl ⟨rfl, gm1, _, ⟨r, I1, hΨ, rfl⟩, hL1, hW1, hG1, hk1, fun _ _ => rfl⟩ (Nat.le_of_eq (Nat.zero_add _)) (Nat.le_of_eq (Nat.zero_add _)) dL_marks_18
set_option maxHeartbeats 4000000 in
set_option maxRecDepth 100000 in
theorem w_marks_1 {l : Launch} {D : va_G} {tc : TC} {dz : Nat} {ad : KN → Nat} {Ks : List KN} {gm : GM} (I : Mem) (hL : LV gm Ks) {lv mc ms : Nat} (hlv : lv ≤ 11) (x y : Int32) {Ψ : GM → Mem → Prop} (hM : GX l yX6_marks cX6_marks 6 (some .int) lv mc ms D tc dz ad Ks (lay tc ad gm dz I) [.ref (ad (0, 0, 0, 0)), .int x, .int y] exI (OutW tc dz ad Ks Ψ)) : GH l yL_marks cL_marks 5 [(0, 10, 13, 13)] mc ms D tc dz ad Ks (lay tc ad gm dz I) (.ref (ad (0, 0, 0, 0)) :: ([.int x, .int y] ++ [.ref (ad (50, 0, 0, 0))])) (fun r u => r = nI 1 ∧ OutW tc dz ad Ks Ψ u) := by
  intro sz
  refine x_ofH (by decide +kernel) (Nat.le_of_ble_eq_true rfl) (fun pp ee s mm bel meth cd ls X hr htab hz h hl => ?_)
  subst hz
  obtain ⟨hx, hb, hmaxL, hown, hts⟩ := id X.1
  have hl : lv_has ls 5 [(0, .ref (ad (0, 0, 0, 0))), (1, .int x), (2, .int y), (3, .ref (ad (50, 0, 0, 0)))] := hl
  refine lv_aload_n hx hb dL_marks_0 rfl (lv_at hl 3 rfl) ?_
  refine lv_iconst (v := nI 0) hx hb dL_marks_1 (by decide) ?_
  refine lv_aload_n hx hb dL_marks_2 rfl (lv_at hl 0 rfl) ?_
  refine lv_iload_n hx hb dL_marks_3 rfl (lv_at hl 1 rfl) ?_
  refine lv_iload_n hx hb dL_marks_4 rfl (lv_at hl 2 rfl) ?_
  refine g_xdone X h (x_xrunV X h (k := (0, 0, 0, 0)) (hM _) F_X6_marks q729 q730 q731 (hL (0, 0, 0, 0) ⟨rfl, rfl, rfl⟩) rfl rfl rfl (by show lv + 1 ≤ 12; omega) (by show 8 + (6 + 11) + 32 * lv ≤ 32 * 12; omega) ⟨Nat.le_of_eq (Nat.zero_add _), Nat.le_of_eq (Nat.zero_add _)⟩ hl.1 (Nat.le_of_ble_eq_true rfl) dL_marks_5 rfl) (fun ce q9 u H locs hP h hcell hcv hccl => ?_)
  refine g_catch X [] ⟨0, 10, 13, 13⟩ [] htab (fun z hz => absurd hz List.not_mem_nil) ⟨Nat.zero_le _, Nat.le_of_ble_eq_true rfl⟩ (by decide) q223 t237 hcell hcv hccl ?_
  refine lv_astore (lv' := [(4, .ref q9), (0, .ref (ad (0, 0, 0, 0))), (1, .int x), (2, .int y), (3, .ref (ad (50, 0, 0, 0)))]) hx hb dL_marks_13 hl (by decide) rfl (fun ls hl => ?_)
  refine lv_iconst (v := nI 1) hx hb dL_marks_15 (by decide) ?_
  exact g_iret X h hr rfl ⟨rfl, hP⟩ (Nat.le_of_eq (Nat.zero_add _)) (Nat.le_of_eq (Nat.zero_add _)) dL_marks_16
set_option maxHeartbeats 4000000 in
set_option maxRecDepth 100000 in
theorem w_clashes_0 {l : Launch} {D : va_G} {tc : TC} {dz : Nat} {ad : KN → Nat} {Ks : List KN} {gm : GM} (I : Mem) (hL : LV gm Ks) {lv mc ms : Nat} (hlv : lv ≤ 11) (x : Int32) {Ψ : Int32 → GM → Mem → Prop} (hM : GI l yX6_clashes cX6_clashes 2 (some .int) lv mc ms D tc dz ad Ks (lay tc ad gm dz I) [.ref (ad (0, 0, 0, 0)), .int x] (fun r u => OutW tc dz ad Ks (Ψ r) u)) : GH l yL_clashes cL_clashes 4 [(0, 9, 12, 13)] mc ms D tc dz ad Ks (lay tc ad gm dz I) (.ref (ad (0, 0, 0, 0)) :: ([.int x] ++ [.ref (ad (50, 0, 0, 0))])) (fun r u => r = nI 0 ∧ OutW tc dz ad Ks (fun gm1 I1 => ∃ v I0, Ψ v gm1 I0 ∧ I1 = sset I0 (50, 0, 0, 0) (upd (I0 (50, 0, 0, 0)) 0 v)) u) := by
  intro sz
  refine x_ofH (by decide +kernel) (Nat.le_of_ble_eq_true rfl) (fun pp ee s mm bel meth cd ls X hr htab hz h hl => ?_)
  subst hz
  obtain ⟨hx, hb, hmaxL, hown, hts⟩ := id X.1
  have hl : lv_has ls 4 [(0, .ref (ad (0, 0, 0, 0))), (1, .int x), (2, .ref (ad (50, 0, 0, 0)))] := hl
  refine lv_aload_n hx hb dL_clashes_0 rfl (lv_at hl 2 rfl) ?_
  refine lv_iconst (v := nI 0) hx hb dL_clashes_1 (by decide) ?_
  refine lv_aload_n hx hb dL_clashes_2 rfl (lv_at hl 0 rfl) ?_
  refine lv_iload_n hx hb dL_clashes_3 rfl (lv_at hl 1 rfl) ?_
  refine g_doneI X h (x_runV X h (k := (0, 0, 0, 0)) (hM _) F_X6_clashes q742 q743 q744 (hL (0, 0, 0, 0) ⟨rfl, rfl, rfl⟩) rfl rfl rfl (by show lv + 1 ≤ 12; omega) (by show 8 + (2 + 11) + 32 * lv ≤ 32 * 12; omega) ⟨Nat.le_of_eq (Nat.zero_add _), Nat.le_of_eq (Nat.zero_add _)⟩ hl.1 (Nat.le_of_ble_eq_true rfl) dL_clashes_4 rfl) (fun r u H locs hP h => ?_)
  obtain ⟨ad1, Ks1, st1⟩ := u
  obtain ⟨gm1, I1, hΨ, hL1, hW1, hG1, hk1, hs1⟩ := hP
  have h : Sx D (wA ad Ks s.heap.size) ad1 Ks1 (lay tc ad1 gm1 dz I1) s H locs := h.congr hs1
  refine lv_i2l hx hb dL_clashes_7 rfl ?_
  refine o_lastA X h (hL1 (50, 0, 0, 0) ⟨by decide, rfl, rfl, rfl⟩) (hk1 _ (hL (50, 0, 0, 0) ⟨by decide, rfl, rfl, rfl⟩) (by decide)).symm dL_clashes_8 (fun H locs h => ?_)
  refine lv_goto (tgt := 15) hx hb dL_clashes_9 (by decide) ?_
  refine lv_iconst (v := nI 0) hx hb dL_clashes_15 (by decide) ?_
  exact g_iret X h hr rfl ⟨rfl, gm1, _, ⟨r, I1, hΨ, rfl⟩, hL1, hW1, hG1, hk1, fun _ _ => rfl⟩ (Nat.le_of_eq (Nat.zero_add _)) (Nat.le_of_eq (Nat.zero_add _)) dL_clashes_16
set_option maxHeartbeats 4000000 in
set_option maxRecDepth 100000 in
theorem w_clashes_1 {l : Launch} {D : va_G} {tc : TC} {dz : Nat} {ad : KN → Nat} {Ks : List KN} {gm : GM} (I : Mem) (hL : LV gm Ks) {lv mc ms : Nat} (hlv : lv ≤ 11) (x : Int32) {Ψ : GM → Mem → Prop} (hM : GX l yX6_clashes cX6_clashes 2 (some .int) lv mc ms D tc dz ad Ks (lay tc ad gm dz I) [.ref (ad (0, 0, 0, 0)), .int x] exI (OutW tc dz ad Ks Ψ)) : GH l yL_clashes cL_clashes 4 [(0, 9, 12, 13)] mc ms D tc dz ad Ks (lay tc ad gm dz I) (.ref (ad (0, 0, 0, 0)) :: ([.int x] ++ [.ref (ad (50, 0, 0, 0))])) (fun r u => r = nI 1 ∧ OutW tc dz ad Ks Ψ u) := by
  intro sz
  refine x_ofH (by decide +kernel) (Nat.le_of_ble_eq_true rfl) (fun pp ee s mm bel meth cd ls X hr htab hz h hl => ?_)
  subst hz
  obtain ⟨hx, hb, hmaxL, hown, hts⟩ := id X.1
  have hl : lv_has ls 4 [(0, .ref (ad (0, 0, 0, 0))), (1, .int x), (2, .ref (ad (50, 0, 0, 0)))] := hl
  refine lv_aload_n hx hb dL_clashes_0 rfl (lv_at hl 2 rfl) ?_
  refine lv_iconst (v := nI 0) hx hb dL_clashes_1 (by decide) ?_
  refine lv_aload_n hx hb dL_clashes_2 rfl (lv_at hl 0 rfl) ?_
  refine lv_iload_n hx hb dL_clashes_3 rfl (lv_at hl 1 rfl) ?_
  refine g_xdone X h (x_xrunV X h (k := (0, 0, 0, 0)) (hM _) F_X6_clashes q742 q743 q744 (hL (0, 0, 0, 0) ⟨rfl, rfl, rfl⟩) rfl rfl rfl (by show lv + 1 ≤ 12; omega) (by show 8 + (2 + 11) + 32 * lv ≤ 32 * 12; omega) ⟨Nat.le_of_eq (Nat.zero_add _), Nat.le_of_eq (Nat.zero_add _)⟩ hl.1 (Nat.le_of_ble_eq_true rfl) dL_clashes_4 rfl) (fun ce q9 u H locs hP h hcell hcv hccl => ?_)
  refine g_catch X [] ⟨0, 9, 12, 13⟩ [] htab (fun z hz => absurd hz List.not_mem_nil) ⟨Nat.zero_le _, Nat.le_of_ble_eq_true rfl⟩ (by decide) q223 t237 hcell hcv hccl ?_
  refine lv_astore_n (lv' := [(3, .ref q9), (0, .ref (ad (0, 0, 0, 0))), (1, .int x), (2, .ref (ad (50, 0, 0, 0)))]) hx hb dL_clashes_12 rfl hl (by decide) rfl (fun ls hl => ?_)
  refine lv_iconst (v := nI 1) hx hb dL_clashes_13 (by decide) ?_
  exact g_iret X h hr rfl ⟨rfl, hP⟩ (Nat.le_of_eq (Nat.zero_add _)) (Nat.le_of_eq (Nat.zero_add _)) dL_clashes_14
set_option maxHeartbeats 4000000 in
set_option maxRecDepth 100000 in
theorem w_agreement_0 {l : Launch} {D : va_G} {tc : TC} {dz : Nat} {ad : KN → Nat} {Ks : List KN} {gm : GM} (I : Mem) (hL : LV gm Ks) {lv : Nat} (hlv : lv ≤ 11) (x y : Int32) (hW : LW gm Ks) (hG2 : GM2 gm) {v : UInt32} (hM : MF l yX6_agreement cX6_agreement 4 (some .float) lv D tc dz ad Ks (lay tc ad gm dz I) [.ref (ad (0, 0, 0, 0)), .int x, .int y] v (lay tc ad gm dz I)) (hn : vf_n64 (FP.f2d v)) : GH l yL_agreement cL_agreement 5 [(0, 10, 13, 13)] 0 0 D tc dz ad Ks (lay tc ad gm dz I) (.ref (ad (0, 0, 0, 0)) :: ([.int x, .int y] ++ [.ref (ad (51, 0, 0, 0))])) (fun r u => r = nI 0 ∧ OutW tc dz ad Ks (fun gm1 I1 => gm1 = gm ∧ I1 = sset I (51, 0, 0, 0) (upd (I (51, 0, 0, 0)) 0 v.toInt32)) u) := by
  intro sz
  refine x_ofH (by decide +kernel) (Nat.le_of_ble_eq_true rfl) (fun pp ee s mm bel meth cd ls X hr htab hz h hl => ?_)
  subst hz
  obtain ⟨hx, hb, hmaxL, hown, hts⟩ := id X.1
  have hl : lv_has ls 5 [(0, .ref (ad (0, 0, 0, 0))), (1, .int x), (2, .int y), (3, .ref (ad (51, 0, 0, 0)))] := hl
  refine lv_aload_n hx hb dL_agreement_0 rfl (lv_at hl 3 rfl) ?_
  refine lv_iconst (v := nI 0) hx hb dL_agreement_1 (by decide) ?_
  refine lv_aload_n hx hb dL_agreement_2 rfl (lv_at hl 0 rfl) ?_
  refine lv_iload_n hx hb dL_agreement_3 rfl (lv_at hl 1 rfl) ?_
  refine lv_iload_n hx hb dL_agreement_4 rfl (lv_at hl 2 rfl) ?_
  refine x_doneF X h (x_runV X h (k := (0, 0, 0, 0)) (hM _) F_X6_agreement q759 q760 q761 (hL (0, 0, 0, 0) ⟨rfl, rfl, rfl⟩) rfl rfl rfl (by show lv + 1 ≤ 12; omega) (by show 8 + (4 + 11) + 32 * lv ≤ 32 * 12; omega) ⟨Nat.zero_le _, Nat.zero_le _⟩ hl.1 (Nat.le_of_ble_eq_true rfl) dL_agreement_5 rfl) (fun H locs h => ?_)
  refine lv_f2d hx hb dL_agreement_8 hn ?_
  refine o_dast X h (hL (51, 0, 0, 0) ⟨by decide, rfl, rfl, rfl⟩) dL_agreement_9 (fun H locs h => ?_)
  refine lv_goto (tgt := 17) hx hb dL_agreement_10 (by decide) ?_
  refine lv_iconst (v := nI 0) hx hb dL_agreement_17 (by decide) ?_
  exact g_iret X h hr rfl ⟨rfl, gm, _, ⟨rfl, rfl⟩, hL, hW, hG2, fun _ _ _ => rfl, fun _ _ => rfl⟩ (Nat.le_refl _) (Nat.le_refl _) dL_agreement_18
set_option maxHeartbeats 4000000 in
set_option maxRecDepth 100000 in
theorem w_agreement_1 {l : Launch} {D : va_G} {tc : TC} {dz : Nat} {ad : KN → Nat} {Ks : List KN} {gm : GM} (I : Mem) (hL : LV gm Ks) {lv mc ms : Nat} (hlv : lv ≤ 11) (x y : Int32) {Ψ : GM → Mem → Prop} (hM : GX l yX6_agreement cX6_agreement 4 (some .float) lv mc ms D tc dz ad Ks (lay tc ad gm dz I) [.ref (ad (0, 0, 0, 0)), .int x, .int y] exI (OutW tc dz ad Ks Ψ)) : GH l yL_agreement cL_agreement 5 [(0, 10, 13, 13)] mc ms D tc dz ad Ks (lay tc ad gm dz I) (.ref (ad (0, 0, 0, 0)) :: ([.int x, .int y] ++ [.ref (ad (51, 0, 0, 0))])) (fun r u => r = nI 1 ∧ OutW tc dz ad Ks Ψ u) := by
  intro sz
  refine x_ofH (by decide +kernel) (Nat.le_of_ble_eq_true rfl) (fun pp ee s mm bel meth cd ls X hr htab hz h hl => ?_)
  subst hz
  obtain ⟨hx, hb, hmaxL, hown, hts⟩ := id X.1
  have hl : lv_has ls 5 [(0, .ref (ad (0, 0, 0, 0))), (1, .int x), (2, .int y), (3, .ref (ad (51, 0, 0, 0)))] := hl
  refine lv_aload_n hx hb dL_agreement_0 rfl (lv_at hl 3 rfl) ?_
  refine lv_iconst (v := nI 0) hx hb dL_agreement_1 (by decide) ?_
  refine lv_aload_n hx hb dL_agreement_2 rfl (lv_at hl 0 rfl) ?_
  refine lv_iload_n hx hb dL_agreement_3 rfl (lv_at hl 1 rfl) ?_
  refine lv_iload_n hx hb dL_agreement_4 rfl (lv_at hl 2 rfl) ?_
  refine g_xdone X h (x_xrunV X h (k := (0, 0, 0, 0)) (hM _) F_X6_agreement q759 q760 q761 (hL (0, 0, 0, 0) ⟨rfl, rfl, rfl⟩) rfl rfl rfl (by show lv + 1 ≤ 12; omega) (by show 8 + (4 + 11) + 32 * lv ≤ 32 * 12; omega) ⟨Nat.le_of_eq (Nat.zero_add _), Nat.le_of_eq (Nat.zero_add _)⟩ hl.1 (Nat.le_of_ble_eq_true rfl) dL_agreement_5 rfl) (fun ce q9 u H locs hP h hcell hcv hccl => ?_)
  refine g_catch X [] ⟨0, 10, 13, 13⟩ [] htab (fun z hz => absurd hz List.not_mem_nil) ⟨Nat.zero_le _, Nat.le_of_ble_eq_true rfl⟩ (by decide) q223 t237 hcell hcv hccl ?_
  refine lv_astore (lv' := [(4, .ref q9), (0, .ref (ad (0, 0, 0, 0))), (1, .int x), (2, .int y), (3, .ref (ad (51, 0, 0, 0)))]) hx hb dL_agreement_13 hl (by decide) rfl (fun ls hl => ?_)
  refine lv_iconst (v := nI 1) hx hb dL_agreement_15 (by decide) ?_
  exact g_iret X h hr rfl ⟨rfl, hP⟩ (Nat.le_of_eq (Nat.zero_add _)) (Nat.le_of_eq (Nat.zero_add _)) dL_agreement_16
