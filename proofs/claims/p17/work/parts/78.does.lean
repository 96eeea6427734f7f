/-! does and asks of the law: answered; thrown and caught -/
/-- returns the int r, the same names at the same places -/
def MH (l : Launch) (y : MethodName) (cc : ByteArray) (maxL : Nat) (hh : List (Nat × Nat × Nat × Nat)) (mc ms : Nat) (D : va_G) (tc : TC) (dz : Nat) (ad : KN → Nat) (Ks : List KN) (st : KN → va_E) (av : List Value) (r : Int32) (st' : KN → va_E) : Prop :=
  ∀ sz : Nat, Met l y (wsH y cc maxL (some .int) hh) (rmL 12 mc ms) (va_Pc av (PreW D tc dz ad Ks st sz)) (va_Qi (fun (x : Int32) (_ : Unit) => x = r) (fun _ t => Hw D ad Ks st' t.heap) (wA ad Ks sz)) mc ms (wA ad Ks sz)
set_option maxHeartbeats 4000000 in
set_option maxRecDepth 100000 in
theorem w_does_entry_ok {l : Launch} {D : va_G} {tc : TC} {dz : Nat} {ad : KN → Nat} {Ks : List KN} {gm : GM} (I : Mem) (hL : LV gm Ks) {lv : Nat} (hlv : lv ≤ 11) (x y z w : Int32) {I1 : Mem} {r : Int32} (hM : MI l yX6_entry cX6_entry 2 (some .int) lv D tc dz ad Ks (lay tc ad gm dz I) [.ref (ad (0, 0, 0, 0)), .int x] r (lay tc ad gm dz I1)) : MH l yL_does cL_does 7 [(0, 81, 82, 31), (0, 81, 88, 33), (0, 81, 94, 35)] 0 0 D tc dz ad Ks (lay tc ad gm dz I) [.ref (ad (0, 0, 0, 0)), .int (nI 0), .int x, .int y, .int z, .int w] r (lay tc ad gm dz I1) := by
  intro sz
  refine x_ofH (by decide +kernel) (Nat.le_of_ble_eq_true rfl) (fun pp ee s mm bel meth cd ls X hr htab hz h hl => ?_)
  subst hz
  obtain ⟨hx, hb, hmaxL, hown, hts⟩ := id X.1
  have hl : lv_has ls 7 [(0, .ref (ad (0, 0, 0, 0))), (1, .int (nI 0)), (2, .int x), (3, .int y), (4, .int z), (5, .int w)] := hl
  refine lv_iload_n hx hb dL_does_0 rfl (lv_at hl 1 rfl) ?_
  refine lv_if_ne (tgt := 12) hx hb dL_does_1 (by decide) (fun q => absurd q (by decide)) (fun _ => ?_)
  refine lv_aload_n hx hb dL_does_4 rfl (lv_at hl 0 rfl) ?_
  refine lv_iload_n hx hb dL_does_5 rfl (lv_at hl 2 rfl) ?_
  refine x_doneI X h (x_runV X h (k := (0, 0, 0, 0)) (hM _) F_X6_entry q382 q383 q384 (hL (0, 0, 0, 0) ⟨rfl, rfl, rfl⟩) rfl rfl rfl (by show lv + 1 ≤ 12; omega) (by show 8 + (2 + 11) + 32 * lv ≤ 32 * 12; omega) ⟨Nat.le_refl _, Nat.le_refl _⟩ hl.1 (Nat.le_of_ble_eq_true rfl) dL_does_6 rfl) (fun H locs h => ?_)
  refine lv_goto (tgt := 81) hx hb dL_does_9 (by decide) ?_
  exact x_iret X h hr rfl rfl (fun _ _ => rfl) dL_does_81
set_option maxHeartbeats 4000000 in
set_option maxRecDepth 100000 in
theorem w_does_entry_I {l : Launch} {D : va_G} {tc : TC} {dz : Nat} {ad : KN → Nat} {Ks : List KN} {gm : GM} (I : Mem) (hL : LV gm Ks) {lv : Nat} (hlv : lv ≤ 11) (x y z w : Int32) (hM : MX l yX6_entry cX6_entry 2 (some .int) lv D tc dz ad Ks (lay tc ad gm dz I) [.ref (ad (0, 0, 0, 0)), .int x] exI) : MH l yL_does cL_does 7 [(0, 81, 82, 31), (0, 81, 88, 33), (0, 81, 94, 35)] 1 6 D tc dz ad Ks (lay tc ad gm dz I) [.ref (ad (0, 0, 0, 0)), .int (nI 0), .int x, .int y, .int z, .int w] (-300) (lay tc ad gm dz I) := by
  intro sz
  refine x_ofH (by decide +kernel) (Nat.le_of_ble_eq_true rfl) (fun pp ee s mm bel meth cd ls X hr htab hz h hl => ?_)
  subst hz
  obtain ⟨hx, hb, hmaxL, hown, hts⟩ := id X.1
  have hl : lv_has ls 7 [(0, .ref (ad (0, 0, 0, 0))), (1, .int (nI 0)), (2, .int x), (3, .int y), (4, .int z), (5, .int w)] := hl
  refine lv_iload_n hx hb dL_does_0 rfl (lv_at hl 1 rfl) ?_
  refine lv_if_ne (tgt := 12) hx hb dL_does_1 (by decide) (fun q => absurd q (by decide)) (fun _ => ?_)
  refine lv_aload_n hx hb dL_does_4 rfl (lv_at hl 0 rfl) ?_
  refine lv_iload_n hx hb dL_does_5 rfl (lv_at hl 2 rfl) ?_
  refine x_xdone X h (x_xrunV X h (k := (0, 0, 0, 0)) (hM _) F_X6_entry q382 q383 q384 (hL (0, 0, 0, 0) ⟨rfl, rfl, rfl⟩) rfl rfl rfl (by show lv + 1 ≤ 12; omega) (by show 8 + (2 + 11) + 32 * lv ≤ 32 * 12; omega) ⟨Nat.le_refl _, Nat.le_refl _⟩ hl.1 (Nat.le_of_ble_eq_true rfl) dL_does_6 rfl) (fun ce q9 H locs h hcell hcv hccl => ?_)
  refine g_catch X [] ⟨0, 81, 82, 31⟩ [⟨0, 81, 88, 33⟩, ⟨0, 81, 94, 35⟩] htab (fun z hz => absurd hz List.not_mem_nil) ⟨Nat.zero_le _, Nat.le_of_ble_eq_true rfl⟩ (by decide) q379 t210 hcell hcv hccl ?_
  refine lv_astore (lv' := [(6, .ref q9), (0, .ref (ad (0, 0, 0, 0))), (1, .int (nI 0)), (2, .int x), (3, .int y), (4, .int z), (5, .int w)]) hx hb dL_does_82 hl (by decide) rfl (fun ls hl => ?_)
  refine lv_sipush (v := (-300)) hx hb dL_does_84 (by decide) ?_
  exact x_iret X h hr rfl rfl (fun _ _ => rfl) dL_does_87
set_option maxHeartbeats 4000000 in
set_option maxRecDepth 100000 in
theorem w_does_tell_ok {l : Launch} {D : va_G} {tc : TC} {dz : Nat} {ad : KN → Nat} {Ks : List KN} {gm : GM} (I : Mem) (hL : LV gm Ks) {lv : Nat} (hlv : lv ≤ 11) (x y z w : Int32) {I1 : Mem} {r : Int32} (hM : MI l yX6_tell cX6_tell 6 (some .int) lv D tc dz ad Ks (lay tc ad gm dz I) [.ref (ad (0, 0, 0, 0)), .int x, .int y, .int z, .int w] r (lay tc ad gm dz I1)) : MH l yL_does cL_does 7 [(0, 81, 82, 31), (0, 81, 88, 33), (0, 81, 94, 35)] 0 0 D tc dz ad Ks (lay tc ad gm dz I) [.ref (ad (0, 0, 0, 0)), .int (nI 1), .int x, .int y, .int z, .int w] r (lay tc ad gm dz I1) := by
  intro sz
  refine x_ofH (by decide +kernel) (Nat.le_of_ble_eq_true rfl) (fun pp ee s mm bel meth cd ls X hr htab hz h hl => ?_)
  subst hz
  obtain ⟨hx, hb, hmaxL, hown, hts⟩ := id X.1
  have hl : lv_has ls 7 [(0, .ref (ad (0, 0, 0, 0))), (1, .int (nI 1)), (2, .int x), (3, .int y), (4, .int z), (5, .int w)] := hl
  refine lv_iload_n hx hb dL_does_0 rfl (lv_at hl 1 rfl) ?_
  refine lv_if_ne (tgt := 12) hx hb dL_does_1 (by decide) (fun _ => ?_) (fun q => absurd q (by decide))
  refine lv_iload_n hx hb dL_does_12 rfl (lv_at hl 1 rfl) ?_
  refine lv_iconst (v := nI 1) hx hb dL_does_13 (by decide) ?_
  refine lv_icmp_ne (tgt := 30) hx hb dL_does_14 (by decide) (fun q => absurd q (by decide)) (fun _ => ?_)
  refine lv_aload_n hx hb dL_does_17 rfl (lv_at hl 0 rfl) ?_
  refine lv_iload_n hx hb dL_does_18 rfl (lv_at hl 2 rfl) ?_
  refine lv_iload_n hx hb dL_does_19 rfl (lv_at hl 3 rfl) ?_
  refine lv_iload hx hb dL_does_20 (lv_at hl 4 rfl) ?_
  refine lv_iload hx hb dL_does_22 (lv_at hl 5 rfl) ?_
  refine x_doneI X h (x_runV X h (k := (0, 0, 0, 0)) (hM _) F_X6_tell q422 q423 q424 (hL (0, 0, 0, 0) ⟨rfl, rfl, rfl⟩) rfl rfl rfl (by show lv + 1 ≤ 12; omega) (by show 8 + (6 + 11) + 32 * lv ≤ 32 * 12; omega) ⟨Nat.le_refl _, Nat.le_refl _⟩ hl.1 (Nat.le_of_ble_eq_true rfl) dL_does_24 rfl) (fun H locs h => ?_)
  refine lv_goto (tgt := 81) hx hb dL_does_27 (by decide) ?_
  exact x_iret X h hr rfl rfl (fun _ _ => rfl) dL_does_81
set_option maxHeartbeats 4000000 in
set_option maxRecDepth 100000 in
theorem w_does_tell_I {l : Launch} {D : va_G} {tc : TC} {dz : Nat} {ad : KN → Nat} {Ks : List KN} {gm : GM} (I : Mem) (hL : LV gm Ks) {lv : Nat} (hlv : lv ≤ 11) (x y z w : Int32) (hM : MX l yX6_tell cX6_tell 6 (some .int) lv D tc dz ad Ks (lay tc ad gm dz I) [.ref (ad (0, 0, 0, 0)), .int x, .int y, .int z, .int w] exI) : MH l yL_does cL_does 7 [(0, 81, 82, 31), (0, 81, 88, 33), (0, 81, 94, 35)] 1 6 D tc dz ad Ks (lay tc ad gm dz I) [.ref (ad (0, 0, 0, 0)), .int (nI 1), .int x, .int y, .int z, .int w] (-300) (lay tc ad gm dz I) := by
  intro sz
  refine x_ofH (by decide +kernel) (Nat.le_of_ble_eq_true rfl) (fun pp ee s mm bel meth cd ls X hr htab hz h hl => ?_)
  subst hz
  obtain ⟨hx, hb, hmaxL, hown, hts⟩ := id X.1
  have hl : lv_has ls 7 [(0, .ref (ad (0, 0, 0, 0))), (1, .int (nI 1)), (2, .int x), (3, .int y), (4, .int z), (5, .int w)] := hl
  refine lv_iload_n hx hb dL_does_0 rfl (lv_at hl 1 rfl) ?_
  refine lv_if_ne (tgt := 12) hx hb dL_does_1 (by decide) (fun _ => ?_) (fun q => absurd q (by decide))
  refine lv_iload_n hx hb dL_does_12 rfl (lv_at hl 1 rfl) ?_
  refine lv_iconst (v := nI 1) hx hb dL_does_13 (by decide) ?_
  refine lv_icmp_ne (tgt := 30) hx hb dL_does_14 (by decide) (fun q => absurd q (by decide)) (fun _ => ?_)
  refine lv_aload_n hx hb dL_does_17 rfl (lv_at hl 0 rfl) ?_
  refine lv_iload_n hx hb dL_does_18 rfl (lv_at hl 2 rfl) ?_
  refine lv_iload_n hx hb dL_does_19 rfl (lv_at hl 3 rfl) ?_
  refine lv_iload hx hb dL_does_20 (lv_at hl 4 rfl) ?_
  refine lv_iload hx hb dL_does_22 (lv_at hl 5 rfl) ?_
  refine x_xdone X h (x_xrunV X h (k := (0, 0, 0, 0)) (hM _) F_X6_tell q422 q423 q424 (hL (0, 0, 0, 0) ⟨rfl, rfl, rfl⟩) rfl rfl rfl (by show lv + 1 ≤ 12; omega) (by show 8 + (6 + 11) + 32 * lv ≤ 32 * 12; omega) ⟨Nat.le_refl _, Nat.le_refl _⟩ hl.1 (Nat.le_of_ble_eq_true rfl) dL_does_24 rfl) (fun ce q9 H locs h hcell hcv hccl => ?_)
  refine g_catch X [] ⟨0, 81, 82, 31⟩ [⟨0, 81, 88, 33⟩, ⟨0, 81, 94, 35⟩] htab (fun z hz => absurd hz List.not_mem_nil) ⟨Nat.zero_le _, Nat.le_of_ble_eq_true rfl⟩ (by decide) q379 t210 hcell hcv hccl ?_
  refine lv_astore (lv' := [(6, .ref q9), (0, .ref (ad (0, 0, 0, 0))), (1, .int (nI 1)), (2, .int x), (3, .int y), (4, .int z), (5, .int w)]) hx hb dL_does_82 hl (by decide) rfl (fun ls hl => ?_)
  refine lv_sipush (v := (-300)) hx hb dL_does_84 (by decide) ?_
  exact x_iret X h hr rfl rfl (fun _ _ => rfl) dL_does_87
set_option maxHeartbeats 4000000 in
set_option maxRecDepth 100000 in
theorem w_does_tell_A {l : Launch} {D : va_G} {tc : TC} {dz : Nat} {ad : KN → Nat} {Ks : List KN} {gm : GM} (I : Mem) (hL : LV gm Ks) {lv : Nat} (hlv : lv ≤ 11) (x y z w : Int32) (hM : MX l yX6_tell cX6_tell 6 (some .int) lv D tc dz ad Ks (lay tc ad gm dz I) [.ref (ad (0, 0, 0, 0)), .int x, .int y, .int z, .int w] exA) : MH l yL_does cL_does 7 [(0, 81, 82, 31), (0, 81, 88, 33), (0, 81, 94, 35)] 1 6 D tc dz ad Ks (lay tc ad gm dz I) [.ref (ad (0, 0, 0, 0)), .int (nI 1), .int x, .int y, .int z, .int w] (-200) (lay tc ad gm dz I) := by
  intro sz
  refine x_ofH (by decide +kernel) (Nat.le_of_ble_eq_true rfl) (fun pp ee s mm bel meth cd ls X hr htab hz h hl => ?_)
  subst hz
  obtain ⟨hx, hb, hmaxL, hown, hts⟩ := id X.1
  have hl : lv_has ls 7 [(0, .ref (ad (0, 0, 0, 0))), (1, .int (nI 1)), (2, .int x), (3, .int y), (4, .int z), (5, .int w)] := hl
  refine lv_iload_n hx hb dL_does_0 rfl (lv_at hl 1 rfl) ?_
  refine lv_if_ne (tgt := 12) hx hb dL_does_1 (by decide) (fun _ => ?_) (fun q => absurd q (by decide))
  refine lv_iload_n hx hb dL_does_12 rfl (lv_at hl 1 rfl) ?_
  refine lv_iconst (v := nI 1) hx hb dL_does_13 (by decide) ?_
  refine lv_icmp_ne (tgt := 30) hx hb dL_does_14 (by decide) (fun q => absurd q (by decide)) (fun _ => ?_)
  refine lv_aload_n hx hb dL_does_17 rfl (lv_at hl 0 rfl) ?_
  refine lv_iload_n hx hb dL_does_18 rfl (lv_at hl 2 rfl) ?_
  refine lv_iload_n hx hb dL_does_19 rfl (lv_at hl 3 rfl) ?_
  refine lv_iload hx hb dL_does_20 (lv_at hl 4 rfl) ?_
  refine lv_iload hx hb dL_does_22 (lv_at hl 5 rfl) ?_
  refine x_xdone X h (x_xrunV X h (k := (0, 0, 0, 0)) (hM _) F_X6_tell q422 q423 q424 (hL (0, 0, 0, 0) ⟨rfl, rfl, rfl⟩) rfl rfl rfl (by show lv + 1 ≤ 12; omega) (by show 8 + (6 + 11) + 32 * lv ≤ 32 * 12; omega) ⟨Nat.le_refl _, Nat.le_refl _⟩ hl.1 (Nat.le_of_ble_eq_true rfl) dL_does_24 rfl) (fun ce q9 H locs h hcell hcv hccl => ?_)
  refine g_catch X [⟨0, 81, 82, 31⟩] ⟨0, 81, 88, 33⟩ [⟨0, 81, 94, 35⟩] htab (fun z hz => by rw [List.mem_singleton.mp hz]; exact ⟨by decide, exI, q379, List.mem_of_getElem? (i := 2) rfl⟩) ⟨Nat.zero_le _, Nat.le_of_ble_eq_true rfl⟩ (by decide) q380 t443 hcell hcv hccl ?_
  refine lv_astore (lv' := [(6, .ref q9), (0, .ref (ad (0, 0, 0, 0))), (1, .int (nI 1)), (2, .int x), (3, .int y), (4, .int z), (5, .int w)]) hx hb dL_does_88 hl (by decide) rfl (fun ls hl => ?_)
  refine lv_sipush (v := (-200)) hx hb dL_does_90 (by decide) ?_
  exact x_iret X h hr rfl rfl (fun _ _ => rfl) dL_does_93
set_option maxHeartbeats 4000000 in
set_option maxRecDepth 100000 in
theorem w_does_tell_S {l : Launch} {D : va_G} {tc : TC} {dz : Nat} {ad : KN → Nat} {Ks : List KN} {gm : GM} (I : Mem) (hL : LV gm Ks) {lv : Nat} (hlv : lv ≤ 11) (x y z w : Int32) (hM : MX l yX6_tell cX6_tell 6 (some .int) lv D tc dz ad Ks (lay tc ad gm dz I) [.ref (ad (0, 0, 0, 0)), .int x, .int y, .int z, .int w] exS) : MH l yL_does cL_does 7 [(0, 81, 82, 31), (0, 81, 88, 33), (0, 81, 94, 35)] 1 6 D tc dz ad Ks (lay tc ad gm dz I) [.ref (ad (0, 0, 0, 0)), .int (nI 1), .int x, .int y, .int z, .int w] (-100) (lay tc ad gm dz I) := by
  intro sz
  refine x_ofH (by decide +kernel) (Nat.le_of_ble_eq_true rfl) (fun pp ee s mm bel meth cd ls X hr htab hz h hl => ?_)
  subst hz
  obtain ⟨hx, hb, hmaxL, hown, hts⟩ := id X.1
  have hl : lv_has ls 7 [(0, .ref (ad (0, 0, 0, 0))), (1, .int (nI 1)), (2, .int x), (3, .int y), (4, .int z), (5, .int w)] := hl
  refine lv_iload_n hx hb dL_does_0 rfl (lv_at hl 1 rfl) ?_
  refine lv_if_ne (tgt := 12) hx hb dL_does_1 (by decide) (fun _ => ?_) (fun q => absurd q (by decide))
  refine lv_iload_n hx hb dL_does_12 rfl (lv_at hl 1 rfl) ?_
  refine lv_iconst (v := nI 1) hx hb dL_does_13 (by decide) ?_
  refine lv_icmp_ne (tgt := 30) hx hb dL_does_14 (by decide) (fun q => absurd q (by decide)) (fun _ => ?_)
  refine lv_aload_n hx hb dL_does_17 rfl (lv_at hl 0 rfl) ?_
  refine lv_iload_n hx hb dL_does_18 rfl (lv_at hl 2 rfl) ?_
  refine lv_iload_n hx hb dL_does_19 rfl (lv_at hl 3 rfl) ?_
  refine lv_iload hx hb dL_does_20 (lv_at hl 4 rfl) ?_
  refine lv_iload hx hb dL_does_22 (lv_at hl 5 rfl) ?_
  refine x_xdone X h (x_xrunV X h (k := (0, 0, 0, 0)) (hM _) F_X6_tell q422 q423 q424 (hL (0, 0, 0, 0) ⟨rfl, rfl, rfl⟩) rfl rfl rfl (by show lv + 1 ≤ 12; omega) (by show 8 + (6 + 11) + 32 * lv ≤ 32 * 12; omega) ⟨Nat.le_refl _, Nat.le_refl _⟩ hl.1 (Nat.le_of_ble_eq_true rfl) dL_does_24 rfl) (fun ce q9 H locs h hcell hcv hccl => ?_)
  refine g_catch X [⟨0, 81, 82, 31⟩, ⟨0, 81, 88, 33⟩] ⟨0, 81, 94, 35⟩ [] htab (fun z hz => (List.mem_cons.mp hz).elim (fun q => by rw [q]; exact ⟨by decide, exI, q379, List.mem_of_getElem? (i := 4) rfl⟩) (fun q => by rw [List.mem_singleton.mp q]; exact ⟨by decide, exA, q380, List.mem_of_getElem? (i := 5) rfl⟩)) ⟨Nat.zero_le _, Nat.le_of_ble_eq_true rfl⟩ (by decide) q381 t388 hcell hcv hccl ?_
  refine lv_astore (lv' := [(6, .ref q9), (0, .ref (ad (0, 0, 0, 0))), (1, .int (nI 1)), (2, .int x), (3, .int y), (4, .int z), (5, .int w)]) hx hb dL_does_94 hl (by decide) rfl (fun ls hl => ?_)
  refine lv_bipush (v := (-100)) hx hb dL_does_96 (by decide) ?_
  exact x_iret X h hr rfl rfl (fun _ _ => rfl) dL_does_98
set_option maxHeartbeats 4000000 in
set_option maxRecDepth 100000 in
theorem w_does_delete_ok {l : Launch} {D : va_G} {tc : TC} {dz : Nat} {ad : KN → Nat} {Ks : List KN} {gm : GM} (I : Mem) (hL : LV gm Ks) {lv : Nat} (hlv : lv ≤ 11) (x y z w : Int32) {mc ms : Nat} {Ψ : Int32 → WS → Prop} (hM : GI l yX6_delete cX6_delete 4 (some .int) lv mc ms D tc dz ad Ks (lay tc ad gm dz I) [.ref (ad (0, 0, 0, 0)), .int x, .int y] Ψ) : GH l yL_does cL_does 7 [(0, 81, 82, 31), (0, 81, 88, 33), (0, 81, 94, 35)] mc ms D tc dz ad Ks (lay tc ad gm dz I) [.ref (ad (0, 0, 0, 0)), .int (nI 2), .int x, .int y, .int z, .int w] Ψ := by
  intro sz
  refine x_ofH (by decide +kernel) (Nat.le_of_ble_eq_true rfl) (fun pp ee s mm bel meth cd ls X hr htab hz h hl => ?_)
  subst hz
  obtain ⟨hx, hb, hmaxL, hown, hts⟩ := id X.1
  have hl : lv_has ls 7 [(0, .ref (ad (0, 0, 0, 0))), (1, .int (nI 2)), (2, .int x), (3, .int y), (4, .int z), (5, .int w)] := hl
  refine lv_iload_n hx hb dL_does_0 rfl (lv_at hl 1 rfl) ?_
  refine lv_if_ne (tgt := 12) hx hb dL_does_1 (by decide) (fun _ => ?_) (fun q => absurd q (by decide))
  refine lv_iload_n hx hb dL_does_12 rfl (lv_at hl 1 rfl) ?_
  refine lv_iconst (v := nI 1) hx hb dL_does_13 (by decide) ?_
  refine lv_icmp_ne (tgt := 30) hx hb dL_does_14 (by decide) (fun _ => ?_) (fun q => absurd q (by decide))
  refine lv_iload_n hx hb dL_does_30 rfl (lv_at hl 1 rfl) ?_
  refine lv_iconst (v := nI 2) hx hb dL_does_31 (by decide) ?_
  refine lv_icmp_ne (tgt := 44) hx hb dL_does_32 (by decide) (fun q => absurd q (by decide)) (fun _ => ?_)
  refine lv_aload_n hx hb dL_does_35 rfl (lv_at hl 0 rfl) ?_
  refine lv_iload_n hx hb dL_does_36 rfl (lv_at hl 2 rfl) ?_
  refine lv_iload_n hx hb dL_does_37 rfl (lv_at hl 3 rfl) ?_
  refine g_doneI X h (x_runV X h (k := (0, 0, 0, 0)) (hM _) F_X6_delete q476 q477 q478 (hL (0, 0, 0, 0) ⟨rfl, rfl, rfl⟩) rfl rfl rfl (by show lv + 1 ≤ 12; omega) (by show 8 + (4 + 11) + 32 * lv ≤ 32 * 12; omega) ⟨Nat.le_of_eq (Nat.zero_add _), Nat.le_of_eq (Nat.zero_add _)⟩ hl.1 (Nat.le_of_ble_eq_true rfl) dL_does_38 rfl) (fun r u H locs hP h => ?_)
  refine lv_goto (tgt := 81) hx hb dL_does_41 (by decide) ?_
  exact g_iret X h hr rfl hP (Nat.le_of_eq (Nat.zero_add _)) (Nat.le_of_eq (Nat.zero_add _)) dL_does_81
set_option maxHeartbeats 4000000 in
set_option maxRecDepth 100000 in
theorem w_does_delete_I {l : Launch} {D : va_G} {tc : TC} {dz : Nat} {ad : KN → Nat} {Ks : List KN} {gm : GM} (I : Mem) (hL : LV gm Ks) {lv : Nat} (hlv : lv ≤ 11) (x y z w : Int32) (hM : MX l yX6_delete cX6_delete 4 (some .int) lv D tc dz ad Ks (lay tc ad gm dz I) [.ref (ad (0, 0, 0, 0)), .int x, .int y] exI) : MH l yL_does cL_does 7 [(0, 81, 82, 31), (0, 81, 88, 33), (0, 81, 94, 35)] 1 6 D tc dz ad Ks (lay tc ad gm dz I) [.ref (ad (0, 0, 0, 0)), .int (nI 2), .int x, .int y, .int z, .int w] (-300) (lay tc ad gm dz I) := by
  intro sz
  refine x_ofH (by decide +kernel) (Nat.le_of_ble_eq_true rfl) (fun pp ee s mm bel meth cd ls X hr htab hz h hl => ?_)
  subst hz
  obtain ⟨hx, hb, hmaxL, hown, hts⟩ := id X.1
  have hl : lv_has ls 7 [(0, .ref (ad (0, 0, 0, 0))), (1, .int (nI 2)), (2, .int x), (3, .int y), (4, .int z), (5, .int w)] := hl
  refine lv_iload_n hx hb dL_does_0 rfl (lv_at hl 1 rfl) ?_
  refine lv_if_ne (tgt := 12) hx hb dL_does_1 (by decide) (fun _ => ?_) (fun q => absurd q (by decide))
  refine lv_iload_n hx hb dL_does_12 rfl (lv_at hl 1 rfl) ?_
  refine lv_iconst (v := nI 1) hx hb dL_does_13 (by decide) ?_
  refine lv_icmp_ne (tgt := 30) hx hb dL_does_14 (by decide) (fun _ => ?_) (fun q => absurd q (by decide))
  refine lv_iload_n hx hb dL_does_30 rfl (lv_at hl 1 rfl) ?_
  refine lv_iconst (v := nI 2) hx hb dL_does_31 (by decide) ?_
  refine lv_icmp_ne (tgt := 44) hx hb dL_does_32 (by decide) (fun q => absurd q (by decide)) (fun _ => ?_)
  refine lv_aload_n hx hb dL_does_35 rfl (lv_at hl 0 rfl) ?_
  refine lv_iload_n hx hb dL_does_36 rfl (lv_at hl 2 rfl) ?_
  refine lv_iload_n hx hb dL_does_37 rfl (lv_at hl 3 rfl) ?_
  refine x_xdone X h (x_xrunV X h (k := (0, 0, 0, 0)) (hM _) F_X6_delete q476 q477 q478 (hL (0, 0, 0, 0) ⟨rfl, rfl, rfl⟩) rfl rfl rfl (by show lv + 1 ≤ 12; omega) (by show 8 + (4 + 11) + 32 * lv ≤ 32 * 12; omega) ⟨Nat.le_refl _, Nat.le_refl _⟩ hl.1 (Nat.le_of_ble_eq_true rfl) dL_does_38 rfl) (fun ce q9 H locs h hcell hcv hccl => ?_)
  refine g_catch X [] ⟨0, 81, 82, 31⟩ [⟨0, 81, 88, 33⟩, ⟨0, 81, 94, 35⟩] htab (fun z hz => absurd hz List.not_mem_nil) ⟨Nat.zero_le _, Nat.le_of_ble_eq_true rfl⟩ (by decide) q379 t210 hcell hcv hccl ?_
  refine lv_astore (lv' := [(6, .ref q9), (0, .ref (ad (0, 0, 0, 0))), (1, .int (nI 2)), (2, .int x), (3, .int y), (4, .int z), (5, .int w)]) hx hb dL_does_82 hl (by decide) rfl (fun ls hl => ?_)
  refine lv_sipush (v := (-300)) hx hb dL_does_84 (by decide) ?_
  exact x_iret X h hr rfl rfl (fun _ _ => rfl) dL_does_87
set_option maxHeartbeats 4000000 in
set_option maxRecDepth 100000 in
theorem w_does_delete_S {l : Launch} {D : va_G} {tc : TC} {dz : Nat} {ad : KN → Nat} {Ks : List KN} {gm : GM} (I : Mem) (hL : LV gm Ks) {lv : Nat} (hlv : lv ≤ 11) (x y z w : Int32) (hM : MX l yX6_delete cX6_delete 4 (some .int) lv D tc dz ad Ks (lay tc ad gm dz I) [.ref (ad (0, 0, 0, 0)), .int x, .int y] exS) : MH l yL_does cL_does 7 [(0, 81, 82, 31), (0, 81, 88, 33), (0, 81, 94, 35)] 1 6 D tc dz ad Ks (lay tc ad gm dz I) [.ref (ad (0, 0, 0, 0)), .int (nI 2), .int x, .int y, .int z, .int w] (-100) (lay tc ad gm dz I) := by
  intro sz
  refine x_ofH (by decide +kernel) (Nat.le_of_ble_eq_true rfl) (fun pp ee s mm bel meth cd ls X hr htab hz h hl => ?_)
  subst hz
  obtain ⟨hx, hb, hmaxL, hown, hts⟩ := id X.1
  have hl : lv_has ls 7 [(0, .ref (ad (0, 0, 0, 0))), (1, .int (nI 2)), (2, .int x), (3, .int y), (4, .int z), (5, .int w)] := hl
  refine lv_iload_n hx hb dL_does_0 rfl (lv_at hl 1 rfl) ?_
  refine lv_if_ne (tgt := 12) hx hb dL_does_1 (by decide) (fun _ => ?_) (fun q => absurd q (by decide))
  refine lv_iload_n hx hb dL_does_12 rfl (lv_at hl 1 rfl) ?_
  refine lv_iconst (v := nI 1) hx hb dL_does_13 (by decide) ?_
  refine lv_icmp_ne (tgt := 30) hx hb dL_does_14 (by decide) (fun _ => ?_) (fun q => absurd q (by decide))
  refine lv_iload_n hx hb dL_does_30 rfl (lv_at hl 1 rfl) ?_
  refine lv_iconst (v := nI 2) hx hb dL_does_31 (by decide) ?_
  refine lv_icmp_ne (tgt := 44) hx hb dL_does_32 (by decide) (fun q => absurd q (by decide)) (fun _ => ?_)
  refine lv_aload_n hx hb dL_does_35 rfl (lv_at hl 0 rfl) ?_
  refine lv_iload_n hx hb dL_does_36 rfl (lv_at hl 2 rfl) ?_
  refine lv_iload_n hx hb dL_does_37 rfl (lv_at hl 3 rfl) ?_
  refine x_xdone X h (x_xrunV X h (k := (0, 0, 0, 0)) (hM _) F_X6_delete q476 q477 q478 (hL (0, 0, 0, 0) ⟨rfl, rfl, rfl⟩) rfl rfl rfl (by show lv + 1 ≤ 12; omega) (by show 8 + (4 + 11) + 32 * lv ≤ 32 * 12; omega) ⟨Nat.le_refl _, Nat.le_refl _⟩ hl.1 (Nat.le_of_ble_eq_true rfl) dL_does_38 rfl) (fun ce q9 H locs h hcell hcv hccl => ?_)
  refine g_catch X [⟨0, 81, 82, 31⟩, ⟨0, 81, 88, 33⟩] ⟨0, 81, 94, 35⟩ [] htab (fun z hz => (List.mem_cons.mp hz).elim (fun q => by rw [q]; exact ⟨by decide, exI, q379, List.mem_of_getElem? (i := 4) rfl⟩) (fun q => by rw [List.mem_singleton.mp q]; exact ⟨by decide, exA, q380, List.mem_of_getElem? (i := 5) rfl⟩)) ⟨Nat.zero_le _, Nat.le_of_ble_eq_true rfl⟩ (by decide) q381 t388 hcell hcv hccl ?_
  refine lv_astore (lv' := [(6, .ref q9), (0, .ref (ad (0, 0, 0, 0))), (1, .int (nI 2)), (2, .int x), (3, .int y), (4, .int z), (5, .int w)]) hx hb dL_does_94 hl (by decide) rfl (fun ls hl => ?_)
  refine lv_bipush (v := (-100)) hx hb dL_does_96 (by decide) ?_
  exact x_iret X h hr rfl rfl (fun _ _ => rfl) dL_does_98
set_option maxHeartbeats 4000000 in
set_option maxRecDepth 100000 in
theorem w_does_share_ok {l : Launch} {D : va_G} {tc : TC} {dz : Nat} {ad : KN → Nat} {Ks : List KN} {gm : GM} (I : Mem) (hL : LV gm Ks) {lv : Nat} (hlv : lv ≤ 11) (x y z w : Int32) {I1 : Mem} {r : Int32} (hM : MI l yX6_share cX6_share 6 (some .int) lv D tc dz ad Ks (lay tc ad gm dz I) [.ref (ad (0, 0, 0, 0)), .int x, .int y, .int z, .int w] r (lay tc ad gm dz I1)) : MH l yL_does cL_does 7 [(0, 81, 82, 31), (0, 81, 88, 33), (0, 81, 94, 35)] 0 0 D tc dz ad Ks (lay tc ad gm dz I) [.ref (ad (0, 0, 0, 0)), .int (nI 3), .int x, .int y, .int z, .int w] r (lay tc ad gm dz I1) := by
  intro sz
  refine x_ofH (by decide +kernel) (Nat.le_of_ble_eq_true rfl) (fun pp ee s mm bel meth cd ls X hr htab hz h hl => ?_)
  subst hz
  obtain ⟨hx, hb, hmaxL, hown, hts⟩ := id X.1
  have hl : lv_has ls 7 [(0, .ref (ad (0, 0, 0, 0))), (1, .int (nI 3)), (2, .int x), (3, .int y), (4, .int z), (5, .int w)] := hl
  refine lv_iload_n hx hb dL_does_0 rfl (lv_at hl 1 rfl) ?_
  refine lv_if_ne (tgt := 12) hx hb dL_does_1 (by decide) (fun _ => ?_) (fun q => absurd q (by decide))
  refine lv_iload_n hx hb dL_does_12 rfl (lv_at hl 1 rfl) ?_
  refine lv_iconst (v := nI 1) hx hb dL_does_13 (by decide) ?_
  refine lv_icmp_ne (tgt := 30) hx hb dL_does_14 (by decide) (fun _ => ?_) (fun q => absurd q (by decide))
  refine lv_iload_n hx hb dL_does_30 rfl (lv_at hl 1 rfl) ?_
  refine lv_iconst (v := nI 2) hx hb dL_does_31 (by decide) ?_
  refine lv_icmp_ne (tgt := 44) hx hb dL_does_32 (by decide) (fun _ => ?_) (fun q => absurd q (by decide))
  refine lv_iload_n hx hb dL_does_44 rfl (lv_at hl 1 rfl) ?_
  refine lv_iconst (v := nI 3) hx hb dL_does_45 (by decide) ?_
  refine lv_icmp_ne (tgt := 62) hx hb dL_does_46 (by decide) (fun q => absurd q (by decide)) (fun _ => ?_)
  refine lv_aload_n hx hb dL_does_49 rfl (lv_at hl 0 rfl) ?_
  refine lv_iload_n hx hb dL_does_50 rfl (lv_at hl 2 rfl) ?_
  refine lv_iload_n hx hb dL_does_51 rfl (lv_at hl 3 rfl) ?_
  refine lv_iload hx hb dL_does_52 (lv_at hl 4 rfl) ?_
  refine lv_iload hx hb dL_does_54 (lv_at hl 5 rfl) ?_
  refine x_doneI X h (x_runV X h (k := (0, 0, 0, 0)) (hM _) F_X6_share q583 q584 q585 (hL (0, 0, 0, 0) ⟨rfl, rfl, rfl⟩) rfl rfl rfl (by show lv + 1 ≤ 12; omega) (by show 8 + (6 + 11) + 32 * lv ≤ 32 * 12; omega) ⟨Nat.le_refl _, Nat.le_refl _⟩ hl.1 (Nat.le_of_ble_eq_true rfl) dL_does_56 rfl) (fun H locs h => ?_)
  refine lv_goto (tgt := 81) hx hb dL_does_59 (by decide) ?_
  exact x_iret X h hr rfl rfl (fun _ _ => rfl) dL_does_81
set_option maxHeartbeats 4000000 in
set_option maxRecDepth 100000 in
theorem w_does_share_I {l : Launch} {D : va_G} {tc : TC} {dz : Nat} {ad : KN → Nat} {Ks : List KN} {gm : GM} (I : Mem) (hL : LV gm Ks) {lv : Nat} (hlv : lv ≤ 11) (x y z w : Int32) (hM : MX l yX6_share cX6_share 6 (some .int) lv D tc dz ad Ks (lay tc ad gm dz I) [.ref (ad (0, 0, 0, 0)), .int x, .int y, .int z, .int w] exI) : MH l yL_does cL_does 7 [(0, 81, 82, 31), (0, 81, 88, 33), (0, 81, 94, 35)] 1 6 D tc dz ad Ks (lay tc ad gm dz I) [.ref (ad (0, 0, 0, 0)), .int (nI 3), .int x, .int y, .int z, .int w] (-300) (lay tc ad gm dz I) := by
  intro sz
  refine x_ofH (by decide +kernel) (Nat.le_of_ble_eq_true rfl) (fun pp ee s mm bel meth cd ls X hr htab hz h hl => ?_)
  subst hz
  obtain ⟨hx, hb, hmaxL, hown, hts⟩ := id X.1
  have hl : lv_has ls 7 [(0, .ref (ad (0, 0, 0, 0))), (1, .int (nI 3)), (2, .int x), (3, .int y), (4, .int z), (5, .int w)] := hl
  refine lv_iload_n hx hb dL_does_0 rfl (lv_at hl 1 rfl) ?_
  refine lv_if_ne (tgt := 12) hx hb dL_does_1 (by decide) (fun _ => ?_) (fun q => absurd q (by decide))
  refine lv_iload_n hx hb dL_does_12 rfl (lv_at hl 1 rfl) ?_
  refine lv_iconst (v := nI 1) hx hb dL_does_13 (by decide) ?_
  refine lv_icmp_ne (tgt := 30) hx hb dL_does_14 (by decide) (fun _ => ?_) (fun q => absurd q (by decide))
  refine lv_iload_n hx hb dL_does_30 rfl (lv_at hl 1 rfl) ?_
  refine lv_iconst (v := nI 2) hx hb dL_does_31 (by decide) ?_
  refine lv_icmp_ne (tgt := 44) hx hb dL_does_32 (by decide) (fun _ => ?_) (fun q => absurd q (by decide))
  refine lv_iload_n hx hb dL_does_44 rfl (lv_at hl 1 rfl) ?_
  refine lv_iconst (v := nI 3) hx hb dL_does_45 (by decide) ?_
  refine lv_icmp_ne (tgt := 62) hx hb dL_does_46 (by decide) (fun q => absurd q (by decide)) (fun _ => ?_)
  refine lv_aload_n hx hb dL_does_49 rfl (lv_at hl 0 rfl) ?_
  refine lv_iload_n hx hb dL_does_50 rfl (lv_at hl 2 rfl) ?_
  refine lv_iload_n hx hb dL_does_51 rfl (lv_at hl 3 rfl) ?_
  refine lv_iload hx hb dL_does_52 (lv_at hl 4 rfl) ?_
  refine lv_iload hx hb dL_does_54 (lv_at hl 5 rfl) ?_
  refine x_xdone X h (x_xrunV X h (k := (0, 0, 0, 0)) (hM _) F_X6_share q583 q584 q585 (hL (0, 0, 0, 0) ⟨rfl, rfl, rfl⟩) rfl rfl rfl (by show lv + 1 ≤ 12; omega) (by show 8 + (6 + 11) + 32 * lv ≤ 32 * 12; omega) ⟨Nat.le_refl _, Nat.le_refl _⟩ hl.1 (Nat.le_of_ble_eq_true rfl) dL_does_56 rfl) (fun ce q9 H locs h hcell hcv hccl => ?_)
  refine g_catch X [] ⟨0, 81, 82, 31⟩ [⟨0, 81, 88, 33⟩, ⟨0, 81, 94, 35⟩] htab (fun z hz => absurd hz List.not_mem_nil) ⟨Nat.zero_le _, Nat.le_of_ble_eq_true rfl⟩ (by decide) q379 t210 hcell hcv hccl ?_
  refine lv_astore (lv' := [(6, .ref q9), (0, .ref (ad (0, 0, 0, 0))), (1, .int (nI 3)), (2, .int x), (3, .int y), (4, .int z), (5, .int w)]) hx hb dL_does_82 hl (by decide) rfl (fun ls hl => ?_)
  refine lv_sipush (v := (-300)) hx hb dL_does_84 (by decide) ?_
  exact x_iret X h hr rfl rfl (fun _ _ => rfl) dL_does_87
set_option maxHeartbeats 4000000 in
set_option maxRecDepth 100000 in
theorem w_does_share_A {l : Launch} {D : va_G} {tc : TC} {dz : Nat} {ad : KN → Nat} {Ks : List KN} {gm : GM} (I : Mem) (hL : LV gm Ks) {lv : Nat} (hlv : lv ≤ 11) (x y z w : Int32) (hM : MX l yX6_share cX6_share 6 (some .int) lv D tc dz ad Ks (lay tc ad gm dz I) [.ref (ad (0, 0, 0, 0)), .int x, .int y, .int z, .int w] exA) : MH l yL_does cL_does 7 [(0, 81, 82, 31), (0, 81, 88, 33), (0, 81, 94, 35)] 1 6 D tc dz ad Ks (lay tc ad gm dz I) [.ref (ad (0, 0, 0, 0)), .int (nI 3), .int x, .int y, .int z, .int w] (-200) (lay tc ad gm dz I) := by
  intro sz
  refine x_ofH (by decide +kernel) (Nat.le_of_ble_eq_true rfl) (fun pp ee s mm bel meth cd ls X hr htab hz h hl => ?_)
  subst hz
  obtain ⟨hx, hb, hmaxL, hown, hts⟩ := id X.1
  have hl : lv_has ls 7 [(0, .ref (ad (0, 0, 0, 0))), (1, .int (nI 3)), (2, .int x), (3, .int y), (4, .int z), (5, .int w)] := hl
  refine lv_iload_n hx hb dL_does_0 rfl (lv_at hl 1 rfl) ?_
  refine lv_if_ne (tgt := 12) hx hb dL_does_1 (by decide) (fun _ => ?_) (fun q => absurd q (by decide))
  refine lv_iload_n hx hb dL_does_12 rfl (lv_at hl 1 rfl) ?_
  refine lv_iconst (v := nI 1) hx hb dL_does_13 (by decide) ?_
  refine lv_icmp_ne (tgt := 30) hx hb dL_does_14 (by decide) (fun _ => ?_) (fun q => absurd q (by decide))
  refine lv_iload_n hx hb dL_does_30 rfl (lv_at hl 1 rfl) ?_
  refine lv_iconst (v := nI 2) hx hb dL_does_31 (by decide) ?_
  refine lv_icmp_ne (tgt := 44) hx hb dL_does_32 (by decide) (fun _ => ?_) (fun q => absurd q (by decide))
  refine lv_iload_n hx hb dL_does_44 rfl (lv_at hl 1 rfl) ?_
  refine lv_iconst (v := nI 3) hx hb dL_does_45 (by decide) ?_
  refine lv_icmp_ne (tgt := 62) hx hb dL_does_46 (by decide) (fun q => absurd q (by decide)) (fun _ => ?_)
  refine lv_aload_n hx hb dL_does_49 rfl (lv_at hl 0 rfl) ?_
  refine lv_iload_n hx hb dL_does_50 rfl (lv_at hl 2 rfl) ?_
  refine lv_iload_n hx hb dL_does_51 rfl (lv_at hl 3 rfl) ?_
  refine lv_iload hx hb dL_does_52 (lv_at hl 4 rfl) ?_
  refine lv_iload hx hb dL_does_54 (lv_at hl 5 rfl) ?_
  refine x_xdone X h (x_xrunV X h (k := (0, 0, 0, 0)) (hM _) F_X6_share q583 q584 q585 (hL (0, 0, 0, 0) ⟨rfl, rfl, rfl⟩) rfl rfl rfl (by show lv + 1 ≤ 12; omega) (by show 8 + (6 + 11) + 32 * lv ≤ 32 * 12; omega) ⟨Nat.le_refl _, Nat.le_refl _⟩ hl.1 (Nat.le_of_ble_eq_true rfl) dL_does_56 rfl) (fun ce q9 H locs h hcell hcv hccl => ?_)
  refine g_catch X [⟨0, 81, 82, 31⟩] ⟨0, 81, 88, 33⟩ [⟨0, 81, 94, 35⟩] htab (fun z hz => by rw [List.mem_singleton.mp hz]; exact ⟨by decide, exI, q379, List.mem_of_getElem? (i := 2) rfl⟩) ⟨Nat.zero_le _, Nat.le_of_ble_eq_true rfl⟩ (by decide) q380 t443 hcell hcv hccl ?_
  refine lv_astore (lv' := [(6, .ref q9), (0, .ref (ad (0, 0, 0, 0))), (1, .int (nI 3)), (2, .int x), (3, .int y), (4, .int z), (5, .int w)]) hx hb dL_does_88 hl (by decide) rfl (fun ls hl => ?_)
  refine lv_sipush (v := (-200)) hx hb dL_does_90 (by decide) ?_
  exact x_iret X h hr rfl rfl (fun _ _ => rfl) dL_does_93
set_option maxHeartbeats 4000000 in
set_option maxRecDepth 100000 in
theorem w_does_share_S {l : Launch} {D : va_G} {tc : TC} {dz : Nat} {ad : KN → Nat} {Ks : List KN} {gm : GM} (I : Mem) (hL : LV gm Ks) {lv : Nat} (hlv : lv ≤ 11) (x y z w : Int32) (hM : MX l yX6_share cX6_share 6 (some .int) lv D tc dz ad Ks (lay tc ad gm dz I) [.ref (ad (0, 0, 0, 0)), .int x, .int y, .int z, .int w] exS) : MH l yL_does cL_does 7 [(0, 81, 82, 31), (0, 81, 88, 33), (0, 81, 94, 35)] 1 6 D tc dz ad Ks (lay tc ad gm dz I) [.ref (ad (0, 0, 0, 0)), .int (nI 3), .int x, .int y, .int z, .int w] (-100) (lay tc ad gm dz I) := by
  intro sz
  refine x_ofH (by decide +kernel) (Nat.le_of_ble_eq_true rfl) (fun pp ee s mm bel meth cd ls X hr htab hz h hl => ?_)
  subst hz
  obtain ⟨hx, hb, hmaxL, hown, hts⟩ := id X.1
  have hl : lv_has ls 7 [(0, .ref (ad (0, 0, 0, 0))), (1, .int (nI 3)), (2, .int x), (3, .int y), (4, .int z), (5, .int w)] := hl
  refine lv_iload_n hx hb dL_does_0 rfl (lv_at hl 1 rfl) ?_
  refine lv_if_ne (tgt := 12) hx hb dL_does_1 (by decide) (fun _ => ?_) (fun q => absurd q (by decide))
  refine lv_iload_n hx hb dL_does_12 rfl (lv_at hl 1 rfl) ?_
  refine lv_iconst (v := nI 1) hx hb dL_does_13 (by decide) ?_
  refine lv_icmp_ne (tgt := 30) hx hb dL_does_14 (by decide) (fun _ => ?_) (fun q => absurd q (by decide))
  refine lv_iload_n hx hb dL_does_30 rfl (lv_at hl 1 rfl) ?_
  refine lv_iconst (v := nI 2) hx hb dL_does_31 (by decide) ?_
  refine lv_icmp_ne (tgt := 44) hx hb dL_does_32 (by decide) (fun _ => ?_) (fun q => absurd q (by decide))
  refine lv_iload_n hx hb dL_does_44 rfl (lv_at hl 1 rfl) ?_
  refine lv_iconst (v := nI 3) hx hb dL_does_45 (by decide) ?_
  refine lv_icmp_ne (tgt := 62) hx hb dL_does_46 (by decide) (fun q => absurd q (by decide)) (fun _ => ?_)
  refine lv_aload_n hx hb dL_does_49 rfl (lv_at hl 0 rfl) ?_
  refine lv_iload_n hx hb dL_does_50 rfl (lv_at hl 2 rfl) ?_
  refine lv_iload_n hx hb dL_does_51 rfl (lv_at hl 3 rfl) ?_
  refine lv_iload hx hb dL_does_52 (lv_at hl 4 rfl) ?_
  refine lv_iload hx hb dL_does_54 (lv_at hl 5 rfl) ?_
  refine x_xdone X h (x_xrunV X h (k := (0, 0, 0, 0)) (hM _) F_X6_share q583 q584 q585 (hL (0, 0, 0, 0) ⟨rfl, rfl, rfl⟩) rfl rfl rfl (by show lv + 1 ≤ 12; omega) (by show 8 + (6 + 11) + 32 * lv ≤ 32 * 12; omega) ⟨Nat.le_refl _, Nat.le_refl _⟩ hl.1 (Nat.le_of_ble_eq_true rfl) dL_does_56 rfl) (fun ce q9 H locs h hcell hcv hccl => ?_)
  refine g_catch X [⟨0, 81, 82, 31⟩, ⟨0, 81, 88, 33⟩] ⟨0, 81, 94, 35⟩ [] htab (fun z hz => (List.mem_cons.mp hz).elim (fun q => by rw [q]; exact ⟨by decide, exI, q379, List.mem_of_getElem? (i := 4) rfl⟩) (fun q => by rw [List.mem_singleton.mp q]; exact ⟨by decide, exA, q380, List.mem_of_getElem? (i := 5) rfl⟩)) ⟨Nat.zero_le _, Nat.le_of_ble_eq_true rfl⟩ (by decide) q381 t388 hcell hcv hccl ?_
  refine lv_astore (lv' := [(6, .ref q9), (0, .ref (ad (0, 0, 0, 0))), (1, .int (nI 3)), (2, .int x), (3, .int y), (4, .int z), (5, .int w)]) hx hb dL_does_94 hl (by decide) rfl (fun ls hl => ?_)
  refine lv_bipush (v := (-100)) hx hb dL_does_96 (by decide) ?_
  exact x_iret X h hr rfl rfl (fun _ _ => rfl) dL_does_98
set_option maxHeartbeats 4000000 in
set_option maxRecDepth 100000 in
theorem w_does_merge_ok {l : Launch} {D : va_G} {tc : TC} {dz : Nat} {ad : KN → Nat} {Ks : List KN} {gm : GM} (I : Mem) (hL : LV gm Ks) {lv : Nat} (hlv : lv ≤ 11) (x y z w : Int32) {I1 : Mem} {r : Int32} (hM : MI l yX6_merge cX6_merge 3 (some .int) lv D tc dz ad Ks (lay tc ad gm dz I) [.ref (ad (0, 0, 0, 0)), .int x, .int y] r (lay tc ad gm dz I1)) : MH l yL_does cL_does 7 [(0, 81, 82, 31), (0, 81, 88, 33), (0, 81, 94, 35)] 0 0 D tc dz ad Ks (lay tc ad gm dz I) [.ref (ad (0, 0, 0, 0)), .int (nI 4), .int x, .int y, .int z, .int w] r (lay tc ad gm dz I1) := by
  intro sz
  refine x_ofH (by decide +kernel) (Nat.le_of_ble_eq_true rfl) (fun pp ee s mm bel meth cd ls X hr htab hz h hl => ?_)
  subst hz
  obtain ⟨hx, hb, hmaxL, hown, hts⟩ := id X.1
  have hl : lv_has ls 7 [(0, .ref (ad (0, 0, 0, 0))), (1, .int (nI 4)), (2, .int x), (3, .int y), (4, .int z), (5, .int w)] := hl
  refine lv_iload_n hx hb dL_does_0 rfl (lv_at hl 1 rfl) ?_
  refine lv_if_ne (tgt := 12) hx hb dL_does_1 (by decide) (fun _ => ?_) (fun q => absurd q (by decide))
  refine lv_iload_n hx hb dL_does_12 rfl (lv_at hl 1 rfl) ?_
  refine lv_iconst (v := nI 1) hx hb dL_does_13 (by decide) ?_
  refine lv_icmp_ne (tgt := 30) hx hb dL_does_14 (by decide) (fun _ => ?_) (fun q => absurd q (by decide))
  refine lv_iload_n hx hb dL_does_30 rfl (lv_at hl 1 rfl) ?_
  refine lv_iconst (v := nI 2) hx hb dL_does_31 (by decide) ?_
  refine lv_icmp_ne (tgt := 44) hx hb dL_does_32 (by decide) (fun _ => ?_) (fun q => absurd q (by decide))
  refine lv_iload_n hx hb dL_does_44 rfl (lv_at hl 1 rfl) ?_
  refine lv_iconst (v := nI 3) hx hb dL_does_45 (by decide) ?_
  refine lv_icmp_ne (tgt := 62) hx hb dL_does_46 (by decide) (fun _ => ?_) (fun q => absurd q (by decide))
  refine lv_iload_n hx hb dL_does_62 rfl (lv_at hl 1 rfl) ?_
  refine lv_iconst (v := nI 4) hx hb dL_does_63 (by decide) ?_
  refine lv_icmp_ne (tgt := 76) hx hb dL_does_64 (by decide) (fun q => absurd q (by decide)) (fun _ => ?_)
  refine lv_aload_n hx hb dL_does_67 rfl (lv_at hl 0 rfl) ?_
  refine lv_iload_n hx hb dL_does_68 rfl (lv_at hl 2 rfl) ?_
  refine lv_iload_n hx hb dL_does_69 rfl (lv_at hl 3 rfl) ?_
  refine x_doneI X h (x_runV X h (k := (0, 0, 0, 0)) (hM _) F_X6_merge q603 q604 q605 (hL (0, 0, 0, 0) ⟨rfl, rfl, rfl⟩) rfl rfl rfl (by show lv + 1 ≤ 12; omega) (by show 8 + (3 + 11) + 32 * lv ≤ 32 * 12; omega) ⟨Nat.le_refl _, Nat.le_refl _⟩ hl.1 (Nat.le_of_ble_eq_true rfl) dL_does_70 rfl) (fun H locs h => ?_)
  refine lv_goto (tgt := 81) hx hb dL_does_73 (by decide) ?_
  exact x_iret X h hr rfl rfl (fun _ _ => rfl) dL_does_81
set_option maxHeartbeats 4000000 in
set_option maxRecDepth 100000 in
theorem w_does_merge_I {l : Launch} {D : va_G} {tc : TC} {dz : Nat} {ad : KN → Nat} {Ks : List KN} {gm : GM} (I : Mem) (hL : LV gm Ks) {lv : Nat} (hlv : lv ≤ 11) (x y z w : Int32) (hM : MX l yX6_merge cX6_merge 3 (some .int) lv D tc dz ad Ks (lay tc ad gm dz I) [.ref (ad (0, 0, 0, 0)), .int x, .int y] exI) : MH l yL_does cL_does 7 [(0, 81, 82, 31), (0, 81, 88, 33), (0, 81, 94, 35)] 1 6 D tc dz ad Ks (lay tc ad gm dz I) [.ref (ad (0, 0, 0, 0)), .int (nI 4), .int x, .int y, .int z, .int w] (-300) (lay tc ad gm dz I) := by
  intro sz
  refine x_ofH (by decide +kernel) (Nat.le_of_ble_eq_true rfl) (fun pp ee s mm bel meth cd ls X hr htab hz h hl => ?_)
  subst hz
  obtain ⟨hx, hb, hmaxL, hown, hts⟩ := id X.1
  have hl : lv_has ls 7 [(0, .ref (ad (0, 0, 0, 0))), (1, .int (nI 4)), (2, .int x), (3, .int y), (4, .int z), (5, .int w)] := hl
  refine lv_iload_n hx hb dL_does_0 rfl (lv_at hl 1 rfl) ?_
  refine lv_if_ne (tgt := 12) hx hb dL_does_1 (by decide) (fun _ => ?_) (fun q => absurd q (by decide))
  refine lv_iload_n hx hb dL_does_12 rfl (lv_at hl 1 rfl) ?_
  refine lv_iconst (v := nI 1) hx hb dL_does_13 (by decide) ?_
  refine lv_icmp_ne (tgt := 30) hx hb dL_does_14 (by decide) (fun _ => ?_) (fun q => absurd q (by decide))
  refine lv_iload_n hx hb dL_does_30 rfl (lv_at hl 1 rfl) ?_
  refine lv_iconst (v := nI 2) hx hb dL_does_31 (by decide) ?_
  refine lv_icmp_ne (tgt := 44) hx hb dL_does_32 (by decide) (fun _ => ?_) (fun q => absurd q (by decide))
  refine lv_iload_n hx hb dL_does_44 rfl (lv_at hl 1 rfl) ?_
  refine lv_iconst (v := nI 3) hx hb dL_does_45 (by decide) ?_
  refine lv_icmp_ne (tgt := 62) hx hb dL_does_46 (by decide) (fun _ => ?_) (fun q => absurd q (by decide))
  refine lv_iload_n hx hb dL_does_62 rfl (lv_at hl 1 rfl) ?_
  refine lv_iconst (v := nI 4) hx hb dL_does_63 (by decide) ?_
  refine lv_icmp_ne (tgt := 76) hx hb dL_does_64 (by decide) (fun q => absurd q (by decide)) (fun _ => ?_)
  refine lv_aload_n hx hb dL_does_67 rfl (lv_at hl 0 rfl) ?_
  refine lv_iload_n hx hb dL_does_68 rfl (lv_at hl 2 rfl) ?_
  refine lv_iload_n hx hb dL_does_69 rfl (lv_at hl 3 rfl) ?_
  refine x_xdone X h (x_xrunV X h (k := (0, 0, 0, 0)) (hM _) F_X6_merge q603 q604 q605 (hL (0, 0, 0, 0) ⟨rfl, rfl, rfl⟩) rfl rfl rfl (by show lv + 1 ≤ 12; omega) (by show 8 + (3 + 11) + 32 * lv ≤ 32 * 12; omega) ⟨Nat.le_refl _, Nat.le_refl _⟩ hl.1 (Nat.le_of_ble_eq_true rfl) dL_does_70 rfl) (fun ce q9 H locs h hcell hcv hccl => ?_)
  refine g_catch X [] ⟨0, 81, 82, 31⟩ [⟨0, 81, 88, 33⟩, ⟨0, 81, 94, 35⟩] htab (fun z hz => absurd hz List.not_mem_nil) ⟨Nat.zero_le _, Nat.le_of_ble_eq_true rfl⟩ (by decide) q379 t210 hcell hcv hccl ?_
  refine lv_astore (lv' := [(6, .ref q9), (0, .ref (ad (0, 0, 0, 0))), (1, .int (nI 4)), (2, .int x), (3, .int y), (4, .int z), (5, .int w)]) hx hb dL_does_82 hl (by decide) rfl (fun ls hl => ?_)
  refine lv_sipush (v := (-300)) hx hb dL_does_84 (by decide) ?_
  exact x_iret X h hr rfl rfl (fun _ _ => rfl) dL_does_87
set_option maxHeartbeats 4000000 in
set_option maxRecDepth 100000 in
theorem w_does_merge_A {l : Launch} {D : va_G} {tc : TC} {dz : Nat} {ad : KN → Nat} {Ks : List KN} {gm : GM} (I : Mem) (hL : LV gm Ks) {lv : Nat} (hlv : lv ≤ 11) (x y z w : Int32) (hM : MX l yX6_merge cX6_merge 3 (some .int) lv D tc dz ad Ks (lay tc ad gm dz I) [.ref (ad (0, 0, 0, 0)), .int x, .int y] exA) : MH l yL_does cL_does 7 [(0, 81, 82, 31), (0, 81, 88, 33), (0, 81, 94, 35)] 1 6 D tc dz ad Ks (lay tc ad gm dz I) [.ref (ad (0, 0, 0, 0)), .int (nI 4), .int x, .int y, .int z, .int w] (-200) (lay tc ad gm dz I) := by
  intro sz
  refine x_ofH (by decide +kernel) (Nat.le_of_ble_eq_true rfl) (fun pp ee s mm bel meth cd ls X hr htab hz h hl => ?_)
  subst hz
  obtain ⟨hx, hb, hmaxL, hown, hts⟩ := id X.1
  have hl : lv_has ls 7 [(0, .ref (ad (0, 0, 0, 0))), (1, .int (nI 4)), (2, .int x), (3, .int y), (4, .int z), (5, .int w)] := hl
  refine lv_iload_n hx hb dL_does_0 rfl (lv_at hl 1 rfl) ?_
  refine lv_if_ne (tgt := 12) hx hb dL_does_1 (by decide) (fun _ => ?_) (fun q => absurd q (by decide))
  refine lv_iload_n hx hb dL_does_12 rfl (lv_at hl 1 rfl) ?_
  refine lv_iconst (v := nI 1) hx hb dL_does_13 (by decide) ?_
  refine lv_icmp_ne (tgt := 30) hx hb dL_does_14 (by decide) (fun _ => ?_) (fun q => absurd q (by decide))
  refine lv_iload_n hx hb dL_does_30 rfl (lv_at hl 1 rfl) ?_
  refine lv_iconst (v := nI 2) hx hb dL_does_31 (by decide) ?_
  refine lv_icmp_ne (tgt := 44) hx hb dL_does_32 (by decide) (fun _ => ?_) (fun q => absurd q (by decide))
  refine lv_iload_n hx hb dL_does_44 rfl (lv_at hl 1 rfl) ?_
  refine lv_iconst (v := nI 3) hx hb dL_does_45 (by decide) ?_
  refine lv_icmp_ne (tgt := 62) hx hb dL_does_46 (by decide) (fun _ => ?_) (fun q => absurd q (by decide))
  refine lv_iload_n hx hb dL_does_62 rfl (lv_at hl 1 rfl) ?_
  refine lv_iconst (v := nI 4) hx hb dL_does_63 (by decide) ?_
  refine lv_icmp_ne (tgt := 76) hx hb dL_does_64 (by decide) (fun q => absurd q (by decide)) (fun _ => ?_)
  refine lv_aload_n hx hb dL_does_67 rfl (lv_at hl 0 rfl) ?_
  refine lv_iload_n hx hb dL_does_68 rfl (lv_at hl 2 rfl) ?_
  refine lv_iload_n hx hb dL_does_69 rfl (lv_at hl 3 rfl) ?_
  refine x_xdone X h (x_xrunV X h (k := (0, 0, 0, 0)) (hM _) F_X6_merge q603 q604 q605 (hL (0, 0, 0, 0) ⟨rfl, rfl, rfl⟩) rfl rfl rfl (by show lv + 1 ≤ 12; omega) (by show 8 + (3 + 11) + 32 * lv ≤ 32 * 12; omega) ⟨Nat.le_refl _, Nat.le_refl _⟩ hl.1 (Nat.le_of_ble_eq_true rfl) dL_does_70 rfl) (fun ce q9 H locs h hcell hcv hccl => ?_)
  refine g_catch X [⟨0, 81, 82, 31⟩] ⟨0, 81, 88, 33⟩ [⟨0, 81, 94, 35⟩] htab (fun z hz => by rw [List.mem_singleton.mp hz]; exact ⟨by decide, exI, q379, List.mem_of_getElem? (i := 2) rfl⟩) ⟨Nat.zero_le _, Nat.le_of_ble_eq_true rfl⟩ (by decide) q380 t443 hcell hcv hccl ?_
  refine lv_astore (lv' := [(6, .ref q9), (0, .ref (ad (0, 0, 0, 0))), (1, .int (nI 4)), (2, .int x), (3, .int y), (4, .int z), (5, .int w)]) hx hb dL_does_88 hl (by decide) rfl (fun ls hl => ?_)
  refine lv_sipush (v := (-200)) hx hb dL_does_90 (by decide) ?_
  exact x_iret X h hr rfl rfl (fun _ _ => rfl) dL_does_93
set_option maxHeartbeats 4000000 in
set_option maxRecDepth 100000 in
theorem w_does_pass_ok {l : Launch} {D : va_G} {tc : TC} {dz : Nat} {ad : KN → Nat} {Ks : List KN} {gm : GM} (I : Mem) (hL : LV gm Ks) {lv : Nat} (hlv : lv ≤ 11) (x y z w : Int32) {I1 : Mem} {r : Int32} (hM : MI l yX6_pass cX6_pass 2 (some .int) lv D tc dz ad Ks (lay tc ad gm dz I) [.ref (ad (0, 0, 0, 0)), .int x] r (lay tc ad gm dz I1)) : MH l yL_does cL_does 7 [(0, 81, 82, 31), (0, 81, 88, 33), (0, 81, 94, 35)] 0 0 D tc dz ad Ks (lay tc ad gm dz I) [.ref (ad (0, 0, 0, 0)), .int (nI 5), .int x, .int y, .int z, .int w] r (lay tc ad gm dz I1) := by
  intro sz
  refine x_ofH (by decide +kernel) (Nat.le_of_ble_eq_true rfl) (fun pp ee s mm bel meth cd ls X hr htab hz h hl => ?_)
  subst hz
  obtain ⟨hx, hb, hmaxL, hown, hts⟩ := id X.1
  have hl : lv_has ls 7 [(0, .ref (ad (0, 0, 0, 0))), (1, .int (nI 5)), (2, .int x), (3, .int y), (4, .int z), (5, .int w)] := hl
  refine lv_iload_n hx hb dL_does_0 rfl (lv_at hl 1 rfl) ?_
  refine lv_if_ne (tgt := 12) hx hb dL_does_1 (by decide) (fun _ => ?_) (fun q => absurd q (by decide))
  refine lv_iload_n hx hb dL_does_12 rfl (lv_at hl 1 rfl) ?_
  refine lv_iconst (v := nI 1) hx hb dL_does_13 (by decide) ?_
  refine lv_icmp_ne (tgt := 30) hx hb dL_does_14 (by decide) (fun _ => ?_) (fun q => absurd q (by decide))
  refine lv_iload_n hx hb dL_does_30 rfl (lv_at hl 1 rfl) ?_
  refine lv_iconst (v := nI 2) hx hb dL_does_31 (by decide) ?_
  refine lv_icmp_ne (tgt := 44) hx hb dL_does_32 (by decide) (fun _ => ?_) (fun q => absurd q (by decide))
  refine lv_iload_n hx hb dL_does_44 rfl (lv_at hl 1 rfl) ?_
  refine lv_iconst (v := nI 3) hx hb dL_does_45 (by decide) ?_
  refine lv_icmp_ne (tgt := 62) hx hb dL_does_46 (by decide) (fun _ => ?_) (fun q => absurd q (by decide))
  refine lv_iload_n hx hb dL_does_62 rfl (lv_at hl 1 rfl) ?_
  refine lv_iconst (v := nI 4) hx hb dL_does_63 (by decide) ?_
  refine lv_icmp_ne (tgt := 76) hx hb dL_does_64 (by decide) (fun _ => ?_) (fun q => absurd q (by decide))
  refine lv_aload_n hx hb dL_does_76 rfl (lv_at hl 0 rfl) ?_
  refine lv_iload_n hx hb dL_does_77 rfl (lv_at hl 2 rfl) ?_
  refine x_doneI X h (x_runV X h (k := (0, 0, 0, 0)) (hM _) F_X6_pass q649 q650 q651 (hL (0, 0, 0, 0) ⟨rfl, rfl, rfl⟩) rfl rfl rfl (by show lv + 1 ≤ 12; omega) (by show 8 + (2 + 11) + 32 * lv ≤ 32 * 12; omega) ⟨Nat.le_refl _, Nat.le_refl _⟩ hl.1 (Nat.le_of_ble_eq_true rfl) dL_does_78 rfl) (fun H locs h => ?_)
  exact x_iret X h hr rfl rfl (fun _ _ => rfl) dL_does_81
set_option maxHeartbeats 4000000 in
set_option maxRecDepth 100000 in
theorem w_does_pass_A {l : Launch} {D : va_G} {tc : TC} {dz : Nat} {ad : KN → Nat} {Ks : List KN} {gm : GM} (I : Mem) (hL : LV gm Ks) {lv : Nat} (hlv : lv ≤ 11) (x y z w : Int32) (hM : MX l yX6_pass cX6_pass 2 (some .int) lv D tc dz ad Ks (lay tc ad gm dz I) [.ref (ad (0, 0, 0, 0)), .int x] exA) : MH l yL_does cL_does 7 [(0, 81, 82, 31), (0, 81, 88, 33), (0, 81, 94, 35)] 1 6 D tc dz ad Ks (lay tc ad gm dz I) [.ref (ad (0, 0, 0, 0)), .int (nI 5), .int x, .int y, .int z, .int w] (-200) (lay tc ad gm dz I) := by
  intro sz
  refine x_ofH (by decide +kernel) (Nat.le_of_ble_eq_true rfl) (fun pp ee s mm bel meth cd ls X hr htab hz h hl => ?_)
  subst hz
  obtain ⟨hx, hb, hmaxL, hown, hts⟩ := id X.1
  have hl : lv_has ls 7 [(0, .ref (ad (0, 0, 0, 0))), (1, .int (nI 5)), (2, .int x), (3, .int y), (4, .int z), (5, .int w)] := hl
  refine lv_iload_n hx hb dL_does_0 rfl (lv_at hl 1 rfl) ?_
  refine lv_if_ne (tgt := 12) hx hb dL_does_1 (by decide) (fun _ => ?_) (fun q => absurd q (by decide))
  refine lv_iload_n hx hb dL_does_12 rfl (lv_at hl 1 rfl) ?_
  refine lv_iconst (v := nI 1) hx hb dL_does_13 (by decide) ?_
  refine lv_icmp_ne (tgt := 30) hx hb dL_does_14 (by decide) (fun _ => ?_) (fun q => absurd q (by decide))
  refine lv_iload_n hx hb dL_does_30 rfl (lv_at hl 1 rfl) ?_
  refine lv_iconst (v := nI 2) hx hb dL_does_31 (by decide) ?_
  refine lv_icmp_ne (tgt := 44) hx hb dL_does_32 (by decide) (fun _ => ?_) (fun q => absurd q (by decide))
  refine lv_iload_n hx hb dL_does_44 rfl (lv_at hl 1 rfl) ?_
  refine lv_iconst (v := nI 3) hx hb dL_does_45 (by decide) ?_
  refine lv_icmp_ne (tgt := 62) hx hb dL_does_46 (by decide) (fun _ => ?_) (fun q => absurd q (by decide))
  refine lv_iload_n hx hb dL_does_62 rfl (lv_at hl 1 rfl) ?_
  refine lv_iconst (v := nI 4) hx hb dL_does_63 (by decide) ?_
  refine lv_icmp_ne (tgt := 76) hx hb dL_does_64 (by decide) (fun _ => ?_) (fun q => absurd q (by decide))
  refine lv_aload_n hx hb dL_does_76 rfl (lv_at hl 0 rfl) ?_
  refine lv_iload_n hx hb dL_does_77 rfl (lv_at hl 2 rfl) ?_
  refine x_xdone X h (x_xrunV X h (k := (0, 0, 0, 0)) (hM _) F_X6_pass q649 q650 q651 (hL (0, 0, 0, 0) ⟨rfl, rfl, rfl⟩) rfl rfl rfl (by show lv + 1 ≤ 12; omega) (by show 8 + (2 + 11) + 32 * lv ≤ 32 * 12; omega) ⟨Nat.le_refl _, Nat.le_refl _⟩ hl.1 (Nat.le_of_ble_eq_true rfl) dL_does_78 rfl) (fun ce q9 H locs h hcell hcv hccl => ?_)
  refine g_catch X [⟨0, 81, 82, 31⟩] ⟨0, 81, 88, 33⟩ [⟨0, 81, 94, 35⟩] htab (fun z hz => by rw [List.mem_singleton.mp hz]; exact ⟨by decide, exI, q379, List.mem_of_getElem? (i := 2) rfl⟩) ⟨Nat.zero_le _, Nat.le_of_ble_eq_true rfl⟩ (by decide) q380 t443 hcell hcv hccl ?_
  refine lv_astore (lv' := [(6, .ref q9), (0, .ref (ad (0, 0, 0, 0))), (1, .int (nI 5)), (2, .int x), (3, .int y), (4, .int z), (5, .int w)]) hx hb dL_does_88 hl (by decide) rfl (fun ls hl => ?_)
  refine lv_sipush (v := (-200)) hx hb dL_does_90 (by decide) ?_
  exact x_iret X h hr rfl rfl (fun _ _ => rfl) dL_does_93
set_option maxHeartbeats 4000000 in
set_option maxRecDepth 100000 in
theorem w_asks_state_I {l : Launch} {D : va_G} {tc : TC} {dz : Nat} {ad : KN → Nat} {Ks : List KN} {gm : GM} (I : Mem) (hL : LV gm Ks) {lv : Nat} (hlv : lv ≤ 11) (x y z w : Int32) (hM : MX l yX6_state cX6_state 4 (some .int) lv D tc dz ad Ks (lay tc ad gm dz I) [.ref (ad (0, 0, 0, 0)), .int x, .int y] exI) : MH l yL_asks cL_asks 7 [(0, 127, 128, 31)] 1 6 D tc dz ad Ks (lay tc ad gm dz I) [.ref (ad (0, 0, 0, 0)), .int (nI 0), .int x, .int y, .int z, .int w] (-300) (lay tc ad gm dz I) := by
  intro sz
  refine x_ofH (by decide +kernel) (Nat.le_of_ble_eq_true rfl) (fun pp ee s mm bel meth cd ls X hr htab hz h hl => ?_)
  subst hz
  obtain ⟨hx, hb, hmaxL, hown, hts⟩ := id X.1
  have hl : lv_has ls 7 [(0, .ref (ad (0, 0, 0, 0))), (1, .int (nI 0)), (2, .int x), (3, .int y), (4, .int z), (5, .int w)] := hl
  refine lv_iload_n hx hb dL_asks_0 rfl (lv_at hl 1 rfl) ?_
  refine lv_if_ne (tgt := 13) hx hb dL_asks_1 (by decide) (fun q => absurd q (by decide)) (fun _ => ?_)
  refine lv_aload_n hx hb dL_asks_4 rfl (lv_at hl 0 rfl) ?_
  refine lv_iload_n hx hb dL_asks_5 rfl (lv_at hl 2 rfl) ?_
  refine lv_iload_n hx hb dL_asks_6 rfl (lv_at hl 3 rfl) ?_
  refine x_xdone X h (x_xrunV X h (k := (0, 0, 0, 0)) (hM _) F_X6_state q670 q671 q672 (hL (0, 0, 0, 0) ⟨rfl, rfl, rfl⟩) rfl rfl rfl (by show lv + 1 ≤ 12; omega) (by show 8 + (4 + 11) + 32 * lv ≤ 32 * 12; omega) ⟨Nat.le_refl _, Nat.le_refl _⟩ hl.1 (Nat.le_of_ble_eq_true rfl) dL_asks_7 rfl) (fun ce q9 H locs h hcell hcv hccl => ?_)
  refine g_catch X [] ⟨0, 127, 128, 31⟩ [] htab (fun z hz => absurd hz List.not_mem_nil) ⟨Nat.zero_le _, Nat.le_of_ble_eq_true rfl⟩ (by decide) q379 t210 hcell hcv hccl ?_
  refine lv_astore (lv' := [(6, .ref q9), (0, .ref (ad (0, 0, 0, 0))), (1, .int (nI 0)), (2, .int x), (3, .int y), (4, .int z), (5, .int w)]) hx hb dL_asks_128 hl (by decide) rfl (fun ls hl => ?_)
  refine lv_sipush (v := (-300)) hx hb dL_asks_130 (by decide) ?_
  exact x_iret X h hr rfl rfl (fun _ _ => rfl) dL_asks_133
set_option maxHeartbeats 4000000 in
set_option maxRecDepth 100000 in
theorem w_asks_value_I {l : Launch} {D : va_G} {tc : TC} {dz : Nat} {ad : KN → Nat} {Ks : List KN} {gm : GM} (I : Mem) (hL : LV gm Ks) {lv : Nat} (hlv : lv ≤ 11) (x y z w : Int32) (hM : MX l yX6_value cX6_value 5 (some .int) lv D tc dz ad Ks (lay tc ad gm dz I) [.ref (ad (0, 0, 0, 0)), .int x, .int y, .int z, .int w] exI) : MH l yL_asks cL_asks 7 [(0, 127, 128, 31)] 1 6 D tc dz ad Ks (lay tc ad gm dz I) [.ref (ad (0, 0, 0, 0)), .int (nI 1), .int x, .int y, .int z, .int w] (-300) (lay tc ad gm dz I) := by
  intro sz
  refine x_ofH (by decide +kernel) (Nat.le_of_ble_eq_true rfl) (fun pp ee s mm bel meth cd ls X hr htab hz h hl => ?_)
  subst hz
  obtain ⟨hx, hb, hmaxL, hown, hts⟩ := id X.1
  have hl : lv_has ls 7 [(0, .ref (ad (0, 0, 0, 0))), (1, .int (nI 1)), (2, .int x), (3, .int y), (4, .int z), (5, .int w)] := hl
  refine lv_iload_n hx hb dL_asks_0 rfl (lv_at hl 1 rfl) ?_
  refine lv_if_ne (tgt := 13) hx hb dL_asks_1 (by decide) (fun _ => ?_) (fun q => absurd q (by decide))
  refine lv_iload_n hx hb dL_asks_13 rfl (lv_at hl 1 rfl) ?_
  refine lv_iconst (v := nI 1) hx hb dL_asks_14 (by decide) ?_
  refine lv_icmp_ne (tgt := 31) hx hb dL_asks_15 (by decide) (fun q => absurd q (by decide)) (fun _ => ?_)
  refine lv_aload_n hx hb dL_asks_18 rfl (lv_at hl 0 rfl) ?_
  refine lv_iload_n hx hb dL_asks_19 rfl (lv_at hl 2 rfl) ?_
  refine lv_iload_n hx hb dL_asks_20 rfl (lv_at hl 3 rfl) ?_
  refine lv_iload hx hb dL_asks_21 (lv_at hl 4 rfl) ?_
  refine lv_iload hx hb dL_asks_23 (lv_at hl 5 rfl) ?_
  refine x_xdone X h (x_xrunV X h (k := (0, 0, 0, 0)) (hM _) F_X6_value q675 q676 q677 (hL (0, 0, 0, 0) ⟨rfl, rfl, rfl⟩) rfl rfl rfl (by show lv + 1 ≤ 12; omega) (by show 8 + (5 + 11) + 32 * lv ≤ 32 * 12; omega) ⟨Nat.le_refl _, Nat.le_refl _⟩ hl.1 (Nat.le_of_ble_eq_true rfl) dL_asks_25 rfl) (fun ce q9 H locs h hcell hcv hccl => ?_)
  refine g_catch X [] ⟨0, 127, 128, 31⟩ [] htab (fun z hz => absurd hz List.not_mem_nil) ⟨Nat.zero_le _, Nat.le_of_ble_eq_true rfl⟩ (by decide) q379 t210 hcell hcv hccl ?_
  refine lv_astore (lv' := [(6, .ref q9), (0, .ref (ad (0, 0, 0, 0))), (1, .int (nI 1)), (2, .int x), (3, .int y), (4, .int z), (5, .int w)]) hx hb dL_asks_128 hl (by decide) rfl (fun ls hl => ?_)
  refine lv_sipush (v := (-300)) hx hb dL_asks_130 (by decide) ?_
  exact x_iret X h hr rfl rfl (fun _ _ => rfl) dL_asks_133
set_option maxHeartbeats 4000000 in
set_option maxRecDepth 100000 in
theorem w_asks_valueAnew_I {l : Launch} {D : va_G} {tc : TC} {dz : Nat} {ad : KN → Nat} {Ks : List KN} {gm : GM} (I : Mem) (hL : LV gm Ks) {lv : Nat} (hlv : lv ≤ 11) (x y z w : Int32) {mc ms : Nat} {Ψ : WS → Prop} (hM : GX l yX6_valueAnew cX6_valueAnew 5 (some .int) lv mc ms D tc dz ad Ks (lay tc ad gm dz I) [.ref (ad (0, 0, 0, 0)), .int x, .int y, .int z, .int w] exI Ψ) : GH l yL_asks cL_asks 7 [(0, 127, 128, 31)] mc ms D tc dz ad Ks (lay tc ad gm dz I) [.ref (ad (0, 0, 0, 0)), .int (nI 2), .int x, .int y, .int z, .int w] (fun r u => r = (-300) ∧ Ψ u) := by
  intro sz
  refine x_ofH (by decide +kernel) (Nat.le_of_ble_eq_true rfl) (fun pp ee s mm bel meth cd ls X hr htab hz h hl => ?_)
  subst hz
  obtain ⟨hx, hb, hmaxL, hown, hts⟩ := id X.1
  have hl : lv_has ls 7 [(0, .ref (ad (0, 0, 0, 0))), (1, .int (nI 2)), (2, .int x), (3, .int y), (4, .int z), (5, .int w)] := hl
  refine lv_iload_n hx hb dL_asks_0 rfl (lv_at hl 1 rfl) ?_
  refine lv_if_ne (tgt := 13) hx hb dL_asks_1 (by decide) (fun _ => ?_) (fun q => absurd q (by decide))
  refine lv_iload_n hx hb dL_asks_13 rfl (lv_at hl 1 rfl) ?_
  refine lv_iconst (v := nI 1) hx hb dL_asks_14 (by decide) ?_
  refine lv_icmp_ne (tgt := 31) hx hb dL_asks_15 (by decide) (fun _ => ?_) (fun q => absurd q (by decide))
  refine lv_iload_n hx hb dL_asks_31 rfl (lv_at hl 1 rfl) ?_
  refine lv_iconst (v := nI 2) hx hb dL_asks_32 (by decide) ?_
  refine lv_icmp_ne (tgt := 49) hx hb dL_asks_33 (by decide) (fun q => absurd q (by decide)) (fun _ => ?_)
  refine lv_aload_n hx hb dL_asks_36 rfl (lv_at hl 0 rfl) ?_
  refine lv_iload_n hx hb dL_asks_37 rfl (lv_at hl 2 rfl) ?_
  refine lv_iload_n hx hb dL_asks_38 rfl (lv_at hl 3 rfl) ?_
  refine lv_iload hx hb dL_asks_39 (lv_at hl 4 rfl) ?_
  refine lv_iload hx hb dL_asks_41 (lv_at hl 5 rfl) ?_
  refine g_xdone X h (x_xrunV X h (k := (0, 0, 0, 0)) (hM _) F_X6_valueAnew q688 q689 q690 (hL (0, 0, 0, 0) ⟨rfl, rfl, rfl⟩) rfl rfl rfl (by show lv + 1 ≤ 12; omega) (by show 8 + (5 + 11) + 32 * lv ≤ 32 * 12; omega) ⟨Nat.le_of_eq (Nat.zero_add _), Nat.le_of_eq (Nat.zero_add _)⟩ hl.1 (Nat.le_of_ble_eq_true rfl) dL_asks_43 rfl) (fun ce q9 u H locs hP h hcell hcv hccl => ?_)
  refine g_catch X [] ⟨0, 127, 128, 31⟩ [] htab (fun z hz => absurd hz List.not_mem_nil) ⟨Nat.zero_le _, Nat.le_of_ble_eq_true rfl⟩ (by decide) q379 t210 hcell hcv hccl ?_
  refine lv_astore (lv' := [(6, .ref q9), (0, .ref (ad (0, 0, 0, 0))), (1, .int (nI 2)), (2, .int x), (3, .int y), (4, .int z), (5, .int w)]) hx hb dL_asks_128 hl (by decide) rfl (fun ls hl => ?_)
  refine lv_sipush (v := (-300)) hx hb dL_asks_130 (by decide) ?_
  exact g_iret X h hr rfl ⟨rfl, hP⟩ (Nat.le_of_eq (Nat.zero_add _)) (Nat.le_of_eq (Nat.zero_add _)) dL_asks_133
set_option maxHeartbeats 4000000 in
set_option maxRecDepth 100000 in
theorem w_asks_values_I {l : Launch} {D : va_G} {tc : TC} {dz : Nat} {ad : KN → Nat} {Ks : List KN} {gm : GM} (I : Mem) (hL : LV gm Ks) {lv : Nat} (hlv : lv ≤ 11) (x y z w : Int32) (hM : MX l yX6_values cX6_values 5 (some .int) lv D tc dz ad Ks (lay tc ad gm dz I) [.ref (ad (0, 0, 0, 0)), .int x, .int y, .int z] exI) : MH l yL_asks cL_asks 7 [(0, 127, 128, 31)] 1 6 D tc dz ad Ks (lay tc ad gm dz I) [.ref (ad (0, 0, 0, 0)), .int (nI 3), .int x, .int y, .int z, .int w] (-300) (lay tc ad gm dz I) := by
  intro sz
  refine x_ofH (by decide +kernel) (Nat.le_of_ble_eq_true rfl) (fun pp ee s mm bel meth cd ls X hr htab hz h hl => ?_)
  subst hz
  obtain ⟨hx, hb, hmaxL, hown, hts⟩ := id X.1
  have hl : lv_has ls 7 [(0, .ref (ad (0, 0, 0, 0))), (1, .int (nI 3)), (2, .int x), (3, .int y), (4, .int z), (5, .int w)] := hl
  refine lv_iload_n hx hb dL_asks_0 rfl (lv_at hl 1 rfl) ?_
  refine lv_if_ne (tgt := 13) hx hb dL_asks_1 (by decide) (fun _ => ?_) (fun q => absurd q (by decide))
  refine lv_iload_n hx hb dL_asks_13 rfl (lv_at hl 1 rfl) ?_
  refine lv_iconst (v := nI 1) hx hb dL_asks_14 (by decide) ?_
  refine lv_icmp_ne (tgt := 31) hx hb dL_asks_15 (by decide) (fun _ => ?_) (fun q => absurd q (by decide))
  refine lv_iload_n hx hb dL_asks_31 rfl (lv_at hl 1 rfl) ?_
  refine lv_iconst (v := nI 2) hx hb dL_asks_32 (by decide) ?_
  refine lv_icmp_ne (tgt := 49) hx hb dL_asks_33 (by decide) (fun _ => ?_) (fun q => absurd q (by decide))
  refine lv_iload_n hx hb dL_asks_49 rfl (lv_at hl 1 rfl) ?_
  refine lv_iconst (v := nI 3) hx hb dL_asks_50 (by decide) ?_
  refine lv_icmp_ne (tgt := 65) hx hb dL_asks_51 (by decide) (fun q => absurd q (by decide)) (fun _ => ?_)
  refine lv_aload_n hx hb dL_asks_54 rfl (lv_at hl 0 rfl) ?_
  refine lv_iload_n hx hb dL_asks_55 rfl (lv_at hl 2 rfl) ?_
  refine lv_iload_n hx hb dL_asks_56 rfl (lv_at hl 3 rfl) ?_
  refine lv_iload hx hb dL_asks_57 (lv_at hl 4 rfl) ?_
  refine x_xdone X h (x_xrunV X h (k := (0, 0, 0, 0)) (hM _) F_X6_values q716 q717 q718 (hL (0, 0, 0, 0) ⟨rfl, rfl, rfl⟩) rfl rfl rfl (by show lv + 1 ≤ 12; omega) (by show 8 + (5 + 11) + 32 * lv ≤ 32 * 12; omega) ⟨Nat.le_refl _, Nat.le_refl _⟩ hl.1 (Nat.le_of_ble_eq_true rfl) dL_asks_59 rfl) (fun ce q9 H locs h hcell hcv hccl => ?_)
  refine g_catch X [] ⟨0, 127, 128, 31⟩ [] htab (fun z hz => absurd hz List.not_mem_nil) ⟨Nat.zero_le _, Nat.le_of_ble_eq_true rfl⟩ (by decide) q379 t210 hcell hcv hccl ?_
  refine lv_astore (lv' := [(6, .ref q9), (0, .ref (ad (0, 0, 0, 0))), (1, .int (nI 3)), (2, .int x), (3, .int y), (4, .int z), (5, .int w)]) hx hb dL_asks_128 hl (by decide) rfl (fun ls hl => ?_)
  refine lv_sipush (v := (-300)) hx hb dL_asks_130 (by decide) ?_
  exact x_iret X h hr rfl rfl (fun _ _ => rfl) dL_asks_133
set_option maxHeartbeats 4000000 in
set_option maxRecDepth 100000 in
theorem w_asks_seen_I {l : Launch} {D : va_G} {tc : TC} {dz : Nat} {ad : KN → Nat} {Ks : List KN} {gm : GM} (I : Mem) (hL : LV gm Ks) {lv : Nat} (hlv : lv ≤ 11) (x y z w : Int32) (hM : MX l yX6_seen cX6_seen 6 (some .int) lv D tc dz ad Ks (lay tc ad gm dz I) [.ref (ad (0, 0, 0, 0)), .int x, .int y, .int z, .int w] exI) : MH l yL_asks cL_asks 7 [(0, 127, 128, 31)] 1 6 D tc dz ad Ks (lay tc ad gm dz I) [.ref (ad (0, 0, 0, 0)), .int (nI 4), .int x, .int y, .int z, .int w] (-300) (lay tc ad gm dz I) := by
  intro sz
  refine x_ofH (by decide +kernel) (Nat.le_of_ble_eq_true rfl) (fun pp ee s mm bel meth cd ls X hr htab hz h hl => ?_)
  subst hz
  obtain ⟨hx, hb, hmaxL, hown, hts⟩ := id X.1
  have hl : lv_has ls 7 [(0, .ref (ad (0, 0, 0, 0))), (1, .int (nI 4)), (2, .int x), (3, .int y), (4, .int z), (5, .int w)] := hl
  refine lv_iload_n hx hb dL_asks_0 rfl (lv_at hl 1 rfl) ?_
  refine lv_if_ne (tgt := 13) hx hb dL_asks_1 (by decide) (fun _ => ?_) (fun q => absurd q (by decide))
  refine lv_iload_n hx hb dL_asks_13 rfl (lv_at hl 1 rfl) ?_
  refine lv_iconst (v := nI 1) hx hb dL_asks_14 (by decide) ?_
  refine lv_icmp_ne (tgt := 31) hx hb dL_asks_15 (by decide) (fun _ => ?_) (fun q => absurd q (by decide))
  refine lv_iload_n hx hb dL_asks_31 rfl (lv_at hl 1 rfl) ?_
  refine lv_iconst (v := nI 2) hx hb dL_asks_32 (by decide) ?_
  refine lv_icmp_ne (tgt := 49) hx hb dL_asks_33 (by decide) (fun _ => ?_) (fun q => absurd q (by decide))
  refine lv_iload_n hx hb dL_asks_49 rfl (lv_at hl 1 rfl) ?_
  refine lv_iconst (v := nI 3) hx hb dL_asks_50 (by decide) ?_
  refine lv_icmp_ne (tgt := 65) hx hb dL_asks_51 (by decide) (fun _ => ?_) (fun q => absurd q (by decide))
  refine lv_iload_n hx hb dL_asks_65 rfl (lv_at hl 1 rfl) ?_
  refine lv_iconst (v := nI 4) hx hb dL_asks_66 (by decide) ?_
  refine lv_icmp_ne (tgt := 83) hx hb dL_asks_67 (by decide) (fun q => absurd q (by decide)) (fun _ => ?_)
  refine lv_aload_n hx hb dL_asks_70 rfl (lv_at hl 0 rfl) ?_
  refine lv_iload_n hx hb dL_asks_71 rfl (lv_at hl 2 rfl) ?_
  refine lv_iload_n hx hb dL_asks_72 rfl (lv_at hl 3 rfl) ?_
  refine lv_iload hx hb dL_asks_73 (lv_at hl 4 rfl) ?_
  refine lv_iload hx hb dL_asks_75 (lv_at hl 5 rfl) ?_
  refine x_xdone X h (x_xrunV X h (k := (0, 0, 0, 0)) (hM _) F_X6_seen q720 q721 q722 (hL (0, 0, 0, 0) ⟨rfl, rfl, rfl⟩) rfl rfl rfl (by show lv + 1 ≤ 12; omega) (by show 8 + (6 + 11) + 32 * lv ≤ 32 * 12; omega) ⟨Nat.le_refl _, Nat.le_refl _⟩ hl.1 (Nat.le_of_ble_eq_true rfl) dL_asks_77 rfl) (fun ce q9 H locs h hcell hcv hccl => ?_)
  refine g_catch X [] ⟨0, 127, 128, 31⟩ [] htab (fun z hz => absurd hz List.not_mem_nil) ⟨Nat.zero_le _, Nat.le_of_ble_eq_true rfl⟩ (by decide) q379 t210 hcell hcv hccl ?_
  refine lv_astore (lv' := [(6, .ref q9), (0, .ref (ad (0, 0, 0, 0))), (1, .int (nI 4)), (2, .int x), (3, .int y), (4, .int z), (5, .int w)]) hx hb dL_asks_128 hl (by decide) rfl (fun ls hl => ?_)
  refine lv_sipush (v := (-300)) hx hb dL_asks_130 (by decide) ?_
  exact x_iret X h hr rfl rfl (fun _ _ => rfl) dL_asks_133
set_option maxHeartbeats 4000000 in
set_option maxRecDepth 100000 in
theorem w_asks_marks_I {l : Launch} {D : va_G} {tc : TC} {dz : Nat} {ad : KN → Nat} {Ks : List KN} {gm : GM} (I : Mem) (hL : LV gm Ks) {lv : Nat} (hlv : lv ≤ 11) (x y z w : Int32) (hM : MX l yX6_marks cX6_marks 6 (some .int) lv D tc dz ad Ks (lay tc ad gm dz I) [.ref (ad (0, 0, 0, 0)), .int x, .int y] exI) : MH l yL_asks cL_asks 7 [(0, 127, 128, 31)] 1 6 D tc dz ad Ks (lay tc ad gm dz I) [.ref (ad (0, 0, 0, 0)), .int (nI 5), .int x, .int y, .int z, .int w] (-300) (lay tc ad gm dz I) := by
  intro sz
  refine x_ofH (by decide +kernel) (Nat.le_of_ble_eq_true rfl) (fun pp ee s mm bel meth cd ls X hr htab hz h hl => ?_)
  subst hz
  obtain ⟨hx, hb, hmaxL, hown, hts⟩ := id X.1
  have hl : lv_has ls 7 [(0, .ref (ad (0, 0, 0, 0))), (1, .int (nI 5)), (2, .int x), (3, .int y), (4, .int z), (5, .int w)] := hl
  refine lv_iload_n hx hb dL_asks_0 rfl (lv_at hl 1 rfl) ?_
  refine lv_if_ne (tgt := 13) hx hb dL_asks_1 (by decide) (fun _ => ?_) (fun q => absurd q (by decide))
  refine lv_iload_n hx hb dL_asks_13 rfl (lv_at hl 1 rfl) ?_
  refine lv_iconst (v := nI 1) hx hb dL_asks_14 (by decide) ?_
  refine lv_icmp_ne (tgt := 31) hx hb dL_asks_15 (by decide) (fun _ => ?_) (fun q => absurd q (by decide))
  refine lv_iload_n hx hb dL_asks_31 rfl (lv_at hl 1 rfl) ?_
  refine lv_iconst (v := nI 2) hx hb dL_asks_32 (by decide) ?_
  refine lv_icmp_ne (tgt := 49) hx hb dL_asks_33 (by decide) (fun _ => ?_) (fun q => absurd q (by decide))
  refine lv_iload_n hx hb dL_asks_49 rfl (lv_at hl 1 rfl) ?_
  refine lv_iconst (v := nI 3) hx hb dL_asks_50 (by decide) ?_
  refine lv_icmp_ne (tgt := 65) hx hb dL_asks_51 (by decide) (fun _ => ?_) (fun q => absurd q (by decide))
  refine lv_iload_n hx hb dL_asks_65 rfl (lv_at hl 1 rfl) ?_
  refine lv_iconst (v := nI 4) hx hb dL_asks_66 (by decide) ?_
  refine lv_icmp_ne (tgt := 83) hx hb dL_asks_67 (by decide) (fun _ => ?_) (fun q => absurd q (by decide))
  refine lv_iload_n hx hb dL_asks_83 rfl (lv_at hl 1 rfl) ?_
  refine lv_iconst (v := nI 5) hx hb dL_asks_84 (by decide) ?_
  refine lv_icmp_ne (tgt := 97) hx hb dL_asks_85 (by decide) (fun q => absurd q (by decide)) (fun _ => ?_)
  refine lv_aload_n hx hb dL_asks_88 rfl (lv_at hl 0 rfl) ?_
  refine lv_iload_n hx hb dL_asks_89 rfl (lv_at hl 2 rfl) ?_
  refine lv_iload_n hx hb dL_asks_90 rfl (lv_at hl 3 rfl) ?_
  refine x_xdone X h (x_xrunV X h (k := (0, 0, 0, 0)) (hM _) F_X6_marks q725 q726 q727 (hL (0, 0, 0, 0) ⟨rfl, rfl, rfl⟩) rfl rfl rfl (by show lv + 1 ≤ 12; omega) (by show 8 + (6 + 11) + 32 * lv ≤ 32 * 12; omega) ⟨Nat.le_refl _, Nat.le_refl _⟩ hl.1 (Nat.le_of_ble_eq_true rfl) dL_asks_91 rfl) (fun ce q9 H locs h hcell hcv hccl => ?_)
  refine g_catch X [] ⟨0, 127, 128, 31⟩ [] htab (fun z hz => absurd hz List.not_mem_nil) ⟨Nat.zero_le _, Nat.le_of_ble_eq_true rfl⟩ (by decide) q379 t210 hcell hcv hccl ?_
  refine lv_astore (lv' := [(6, .ref q9), (0, .ref (ad (0, 0, 0, 0))), (1, .int (nI 5)), (2, .int x), (3, .int y), (4, .int z), (5, .int w)]) hx hb dL_asks_128 hl (by decide) rfl (fun ls hl => ?_)
  refine lv_sipush (v := (-300)) hx hb dL_asks_130 (by decide) ?_
  exact x_iret X h hr rfl rfl (fun _ _ => rfl) dL_asks_133
set_option maxHeartbeats 4000000 in
set_option maxRecDepth 100000 in
theorem w_asks_clashes_I {l : Launch} {D : va_G} {tc : TC} {dz : Nat} {ad : KN → Nat} {Ks : List KN} {gm : GM} (I : Mem) (hL : LV gm Ks) {lv : Nat} (hlv : lv ≤ 11) (x y z w : Int32) (hM : MX l yX6_clashes cX6_clashes 2 (some .int) lv D tc dz ad Ks (lay tc ad gm dz I) [.ref (ad (0, 0, 0, 0)), .int x] exI) : MH l yL_asks cL_asks 7 [(0, 127, 128, 31)] 1 6 D tc dz ad Ks (lay tc ad gm dz I) [.ref (ad (0, 0, 0, 0)), .int (nI 6), .int x, .int y, .int z, .int w] (-300) (lay tc ad gm dz I) := by
  intro sz
  refine x_ofH (by decide +kernel) (Nat.le_of_ble_eq_true rfl) (fun pp ee s mm bel meth cd ls X hr htab hz h hl => ?_)
  subst hz
  obtain ⟨hx, hb, hmaxL, hown, hts⟩ := id X.1
  have hl : lv_has ls 7 [(0, .ref (ad (0, 0, 0, 0))), (1, .int (nI 6)), (2, .int x), (3, .int y), (4, .int z), (5, .int w)] := hl
  refine lv_iload_n hx hb dL_asks_0 rfl (lv_at hl 1 rfl) ?_
  refine lv_if_ne (tgt := 13) hx hb dL_asks_1 (by decide) (fun _ => ?_) (fun q => absurd q (by decide))
  refine lv_iload_n hx hb dL_asks_13 rfl (lv_at hl 1 rfl) ?_
  refine lv_iconst (v := nI 1) hx hb dL_asks_14 (by decide) ?_
  refine lv_icmp_ne (tgt := 31) hx hb dL_asks_15 (by decide) (fun _ => ?_) (fun q => absurd q (by decide))
  refine lv_iload_n hx hb dL_asks_31 rfl (lv_at hl 1 rfl) ?_
  refine lv_iconst (v := nI 2) hx hb dL_asks_32 (by decide) ?_
  refine lv_icmp_ne (tgt := 49) hx hb dL_asks_33 (by decide) (fun _ => ?_) (fun q => absurd q (by decide))
  refine lv_iload_n hx hb dL_asks_49 rfl (lv_at hl 1 rfl) ?_
  refine lv_iconst (v := nI 3) hx hb dL_asks_50 (by decide) ?_
  refine lv_icmp_ne (tgt := 65) hx hb dL_asks_51 (by decide) (fun _ => ?_) (fun q => absurd q (by decide))
  refine lv_iload_n hx hb dL_asks_65 rfl (lv_at hl 1 rfl) ?_
  refine lv_iconst (v := nI 4) hx hb dL_asks_66 (by decide) ?_
  refine lv_icmp_ne (tgt := 83) hx hb dL_asks_67 (by decide) (fun _ => ?_) (fun q => absurd q (by decide))
  refine lv_iload_n hx hb dL_asks_83 rfl (lv_at hl 1 rfl) ?_
  refine lv_iconst (v := nI 5) hx hb dL_asks_84 (by decide) ?_
  refine lv_icmp_ne (tgt := 97) hx hb dL_asks_85 (by decide) (fun _ => ?_) (fun q => absurd q (by decide))
  refine lv_iload_n hx hb dL_asks_97 rfl (lv_at hl 1 rfl) ?_
  refine lv_bipush (v := nI 6) hx hb dL_asks_98 (by decide) ?_
  refine lv_icmp_ne (tgt := 111) hx hb dL_asks_100 (by decide) (fun q => absurd q (by decide)) (fun _ => ?_)
  refine lv_aload_n hx hb dL_asks_103 rfl (lv_at hl 0 rfl) ?_
  refine lv_iload_n hx hb dL_asks_104 rfl (lv_at hl 2 rfl) ?_
  refine x_xdone X h (x_xrunV X h (k := (0, 0, 0, 0)) (hM _) F_X6_clashes q198 q199 q200 (hL (0, 0, 0, 0) ⟨rfl, rfl, rfl⟩) rfl rfl rfl (by show lv + 1 ≤ 12; omega) (by show 8 + (2 + 11) + 32 * lv ≤ 32 * 12; omega) ⟨Nat.le_refl _, Nat.le_refl _⟩ hl.1 (Nat.le_of_ble_eq_true rfl) dL_asks_105 rfl) (fun ce q9 H locs h hcell hcv hccl => ?_)
  refine g_catch X [] ⟨0, 127, 128, 31⟩ [] htab (fun z hz => absurd hz List.not_mem_nil) ⟨Nat.zero_le _, Nat.le_of_ble_eq_true rfl⟩ (by decide) q379 t210 hcell hcv hccl ?_
  refine lv_astore (lv' := [(6, .ref q9), (0, .ref (ad (0, 0, 0, 0))), (1, .int (nI 6)), (2, .int x), (3, .int y), (4, .int z), (5, .int w)]) hx hb dL_asks_128 hl (by decide) rfl (fun ls hl => ?_)
  refine lv_sipush (v := (-300)) hx hb dL_asks_130 (by decide) ?_
  exact x_iret X h hr rfl rfl (fun _ _ => rfl) dL_asks_133
set_option maxHeartbeats 4000000 in
set_option maxRecDepth 100000 in
theorem w_asks_agreement_I {l : Launch} {D : va_G} {tc : TC} {dz : Nat} {ad : KN → Nat} {Ks : List KN} {gm : GM} (I : Mem) (hL : LV gm Ks) {lv : Nat} (hlv : lv ≤ 11) (x y z w : Int32) (hM : MX l yX6_agreement cX6_agreement 4 (some .float) lv D tc dz ad Ks (lay tc ad gm dz I) [.ref (ad (0, 0, 0, 0)), .int x, .int y] exI) : MH l yL_asks cL_asks 7 [(0, 127, 128, 31)] 1 6 D tc dz ad Ks (lay tc ad gm dz I) [.ref (ad (0, 0, 0, 0)), .int (nI 7), .int x, .int y, .int z, .int w] (-300) (lay tc ad gm dz I) := by
  intro sz
  refine x_ofH (by decide +kernel) (Nat.le_of_ble_eq_true rfl) (fun pp ee s mm bel meth cd ls X hr htab hz h hl => ?_)
  subst hz
  obtain ⟨hx, hb, hmaxL, hown, hts⟩ := id X.1
  have hl : lv_has ls 7 [(0, .ref (ad (0, 0, 0, 0))), (1, .int (nI 7)), (2, .int x), (3, .int y), (4, .int z), (5, .int w)] := hl
  refine lv_iload_n hx hb dL_asks_0 rfl (lv_at hl 1 rfl) ?_
  refine lv_if_ne (tgt := 13) hx hb dL_asks_1 (by decide) (fun _ => ?_) (fun q => absurd q (by decide))
  refine lv_iload_n hx hb dL_asks_13 rfl (lv_at hl 1 rfl) ?_
  refine lv_iconst (v := nI 1) hx hb dL_asks_14 (by decide) ?_
  refine lv_icmp_ne (tgt := 31) hx hb dL_asks_15 (by decide) (fun _ => ?_) (fun q => absurd q (by decide))
  refine lv_iload_n hx hb dL_asks_31 rfl (lv_at hl 1 rfl) ?_
  refine lv_iconst (v := nI 2) hx hb dL_asks_32 (by decide) ?_
  refine lv_icmp_ne (tgt := 49) hx hb dL_asks_33 (by decide) (fun _ => ?_) (fun q => absurd q (by decide))
  refine lv_iload_n hx hb dL_asks_49 rfl (lv_at hl 1 rfl) ?_
  refine lv_iconst (v := nI 3) hx hb dL_asks_50 (by decide) ?_
  refine lv_icmp_ne (tgt := 65) hx hb dL_asks_51 (by decide) (fun _ => ?_) (fun q => absurd q (by decide))
  refine lv_iload_n hx hb dL_asks_65 rfl (lv_at hl 1 rfl) ?_
  refine lv_iconst (v := nI 4) hx hb dL_asks_66 (by decide) ?_
  refine lv_icmp_ne (tgt := 83) hx hb dL_asks_67 (by decide) (fun _ => ?_) (fun q => absurd q (by decide))
  refine lv_iload_n hx hb dL_asks_83 rfl (lv_at hl 1 rfl) ?_
  refine lv_iconst (v := nI 5) hx hb dL_asks_84 (by decide) ?_
  refine lv_icmp_ne (tgt := 97) hx hb dL_asks_85 (by decide) (fun _ => ?_) (fun q => absurd q (by decide))
  refine lv_iload_n hx hb dL_asks_97 rfl (lv_at hl 1 rfl) ?_
  refine lv_bipush (v := nI 6) hx hb dL_asks_98 (by decide) ?_
  refine lv_icmp_ne (tgt := 111) hx hb dL_asks_100 (by decide) (fun _ => ?_) (fun q => absurd q (by decide))
  refine lv_aload_n hx hb dL_asks_111 rfl (lv_at hl 0 rfl) ?_
  refine lv_iload_n hx hb dL_asks_112 rfl (lv_at hl 2 rfl) ?_
  refine lv_iload_n hx hb dL_asks_113 rfl (lv_at hl 3 rfl) ?_
  refine x_xdone X h (x_xrunV X h (k := (0, 0, 0, 0)) (hM _) F_X6_agreement q330 q331 q332 (hL (0, 0, 0, 0) ⟨rfl, rfl, rfl⟩) rfl rfl rfl (by show lv + 1 ≤ 12; omega) (by show 8 + (4 + 11) + 32 * lv ≤ 32 * 12; omega) ⟨Nat.le_refl _, Nat.le_refl _⟩ hl.1 (Nat.le_of_ble_eq_true rfl) dL_asks_114 rfl) (fun ce q9 H locs h hcell hcv hccl => ?_)
  refine g_catch X [] ⟨0, 127, 128, 31⟩ [] htab (fun z hz => absurd hz List.not_mem_nil) ⟨Nat.zero_le _, Nat.le_of_ble_eq_true rfl⟩ (by decide) q379 t210 hcell hcv hccl ?_
  refine lv_astore (lv' := [(6, .ref q9), (0, .ref (ad (0, 0, 0, 0))), (1, .int (nI 7)), (2, .int x), (3, .int y), (4, .int z), (5, .int w)]) hx hb dL_asks_128 hl (by decide) rfl (fun ls hl => ?_)
  refine lv_sipush (v := (-300)) hx hb dL_asks_130 (by decide) ?_
  exact x_iret X h hr rfl rfl (fun _ _ => rfl) dL_asks_133
