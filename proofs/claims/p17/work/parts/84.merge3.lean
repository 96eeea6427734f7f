/-! the law's merging as a whole -/
abbrev rmK (fr lo mc ms : Nat) : Room := { frames := fr, cells := mc, slots := ms, locals := lo }
/-- returns the int r, the same names at the same places; any room -/
def MK (l : Launch) (y : MethodName) (cc : ByteArray) (maxL : Nat) (ret : Option FieldType) (fr lo mc ms : Nat) (D : va_G) (tc : TC) (dz : Nat) (ad : KN → Nat) (Ks : List KN) (st : KN → va_E) (av : List Value) (r : Int32) (st' : KN → va_E) : Prop :=
  ∀ sz : Nat, Met l y (wsA y cc maxL ret) (rmK fr lo mc ms) (va_Pc av (PreW D tc dz ad Ks st sz)) (va_Qi (fun (x : Int32) (_ : Unit) => x = r) (fun _ t => Hw D ad Ks st' t.heap) (wA ad Ks sz)) mc ms (wA ad Ks sz)
/-- rows of the reference alone: the law's arrays are as they were -/
theorem LL_ext {X Y : Mem} (h : ∀ k : KN, k.1 < 43 → k.1 ≠ 30 → Y k = X k) (h30 : ∀ j, j < 3 → Y (30, 0, 0, 0) j = X (30, 0, 0, 0) j) : LAe (LL X) (LL Y) := by
  have hs : ∀ k : KN, k.1 < 43 → k.1 ≠ 30 → LL Y k = LL X k := fun k a b => by rw [LL_see a, LL_see a, h k a b]
  refine ⟨fun k hk => hs k (by omega) (by omega), fun d2 e2 c _ _ _ => by rw [hs _ (by decide) (by decide)], fun d2 e2 c _ _ _ => by rw [hs _ (by decide) (by decide)], fun d2 e2 c _ _ _ => by rw [hs _ (by decide) (by decide)], fun x hx => by rw [hs _ (by decide) (by decide)], fun x hx => by rw [hs _ (by decide) (by decide)], fun x hx => by rw [hs _ (by decide) (by decide)], fun x hx => ?_, fun x hx => ?_, fun x hx => ?_⟩
  · rw [LL_43, LL_43]
    unfold kcode
    rw [h _ (by decide) (by decide), h _ (by decide) (by decide)]
  · rw [LL_44, LL_44]
    unfold wcode
    rw [h _ (by decide) (by decide), h _ (by decide) (by decide)]
  · rw [LL_45, LL_45]
    unfold gcode
    rw [h (31, 0, 0, 0) (by decide) (by decide), h30 1 (by decide), h30 0 (by decide), h30 2 (by decide)]
theorem mm0_LAe {Y : Mem} {d o m : Nat} : LAe (LL Y) (LL (mmM Y d o m 0)) := LL_ext (fun k a b => by rw [mmM, sset_ne _ _ (fun q => b (by rw [q])), th_see b]) (fun j hj => mm_30 (by omega) (by omega) 0)
theorem nr_mm {Y : Mem} {n m t d o : Nat} (h : NR Y n m t) (k : Nat) : NR (mmM Y d o m k) n m t := h.see (fun j hj => mm_30 (by omega) (by omega) k)
theorem nr_of {I : Mem} {L : Nat → Nat → Int32 → Int32} {n m t : Nat} {ac mcs : Nat → Nat} (h : Rel I I L n m t ac mcs) : NR I n m t := ⟨h.gl.nJ, h.gl.tJ, h.gl.mJ⟩
theorem dev2_f {d o : Nat} (h : 5 < d ∨ 5 < o) (hd : d < 7) (ho : o < 7) : (isDev (nI d) && isDev (nI o)) = false := by
  have h6 : isDev (nI 6) = false := by decide
  rcases h with h | h
  · rw [show d = 6 by omega, h6, Bool.false_and]
  · rw [show o = 6 by omega, h6, Bool.and_false]
set_option maxHeartbeats 4000000 in
set_option maxRecDepth 100000 in
theorem m_L_isMerged_I {l : Launch} {D : va_G} {tc : TC} {dz : Nat} {ad : KN → Nat} {Ks : List KN} {gm : GM} (Y : Mem) (hL : LV gm Ks) (hst : l.stackTraces = false) (hG2 : GM2 gm) (n : Nat) (mcs : Nat → Nat) (hBK : BK gm (LL Y) 0 n mcs) (d o : Nat) (hd7 : d < 7) (ho7 : o < 7) (hcs : 5 < d ∨ 5 < o) : MK l yL_isMerged cL_isMerged 23 (Option.some ClassFile.FieldType.boolean) 13 420 1 6 D tc dz ad Ks (lay tc ad gm dz (LL Y)) [.ref (ad (0, 0, 0, 0)), .ref (ad (35, 0, 0, 0)), .ref (ad (37, 0, 0, 0)), .ref (ad (39, 0, 0, 0)), .ref (ad (43, 0, 0, 0)), .ref (ad (44, 0, 0, 0)), .ref (ad (41, 0, 0, 0)), .ref (ad (42, 0, 0, 0)), .ref (ad (40, 0, 0, 0)), .ref (ad (45, 0, 0, 0)), .int (nI d), .int (nI o)] (bI true) (lay tc ad gm dz (LL Y)) := by
  intro sz
  refine x_ofW (by decide +kernel) (Nat.le_of_ble_eq_true rfl) (fun pp ee s mm bel meth cd ls X hr hin hz h hl => ?_)
  subst hz
  obtain ⟨hx, hb, hmaxL, hown, hts⟩ := id X.1
  have hl : lv_has ls 23 [(0, .ref (ad (0, 0, 0, 0))), (1, .ref (ad (35, 0, 0, 0))), (2, .ref (ad (37, 0, 0, 0))), (3, .ref (ad (39, 0, 0, 0))), (4, .ref (ad (43, 0, 0, 0))), (5, .ref (ad (44, 0, 0, 0))), (6, .ref (ad (41, 0, 0, 0))), (7, .ref (ad (42, 0, 0, 0))), (8, .ref (ad (40, 0, 0, 0))), (9, .ref (ad (45, 0, 0, 0))), (10, .int (nI d)), (11, .int (nI o))] := hl
  refine lv_iload hx hb dL_isMerged_0 (lv_at hl 10 rfl) ?_
  refine lv_iconst (v := nI 5) hx hb dL_isMerged_2 (by decide) ?_
  refine n_icmp_gt (tgt := 19) hx hb (by omega) (by omega) dL_isMerged_3 (by decide) (fun c_3 => ?_) (fun c_3 => ?_)
  · skip
    refine lv_aload_n hx hb dL_isMerged_19 rfl (lv_at hl 0 rfl) ?_
    refine lv_iconst (v := nI 4) hx hb dL_isMerged_20 (by decide) ?_
    refine lv_iload hx hb dL_isMerged_21 (lv_at hl 10 rfl) ?_
    refine lv_iload hx hb dL_isMerged_23 (lv_at hl 11 rfl) ?_
    refine lv_iconst (v := nI 0) hx hb dL_isMerged_25 (by decide) ?_
    refine lv_iconst (v := nI 0) hx hb dL_isMerged_26 (by decide) ?_
    refine x_doneI X h (x_runSH (n := 6) X h (w_does_merge_I (LL Y) hL (lv := 9) (by decide) (nI d) (nI o) (nI 0) (nI 0) (x_X6_merge_1 (LL Y) hst hL hG2.ok n mcs hBK (nI d) (nI o) (dev2_f hcs hd7 ho7)) _) q378 q5 q376 q377 ⟨by decide, by decide, by decide +kernel⟩ rfl (Nat.le_of_ble_eq_true rfl) (Nat.le_of_ble_eq_true rfl) ⟨Nat.le_of_ble_eq_true rfl, Nat.le_of_ble_eq_true rfl⟩ hl.1 (Nat.le_of_ble_eq_true rfl) dL_isMerged_27 rfl) (fun H locs h => ?_)
    refine lv_iload hx hb dL_isMerged_30 (lv_at hl 10 rfl) ?_
    refine lv_iconst (v := nI 5) hx hb dL_isMerged_32 (by decide) ?_
    refine n_icmp_gt (tgt := 42) hx hb (by omega) (by omega) dL_isMerged_33 (by decide) (fun c_33 => ?_) (fun c_33 => ?_)
    · skip
      refine lv_sipush (v := (-300)) hx hb dL_isMerged_42 (by decide) ?_
      refine lv_goto (tgt := 51) hx hb dL_isMerged_45 (by decide) ?_
      refine lv_icmp_ne (tgt := 58) hx hb dL_isMerged_51 (by decide) (fun c => absurd rfl c) (fun _ => ?_)
      refine lv_iconst (v := nI 1) hx hb dL_isMerged_54 (by decide) ?_
      refine lv_goto (tgt := 59) hx hb dL_isMerged_55 (by decide) ?_
      exact x_iret X h hr (by decide) rfl (fun _ _ => rfl) dL_isMerged_59
    · skip
      refine lv_iload hx hb dL_isMerged_36 (lv_at hl 11 rfl) ?_
      refine lv_iconst (v := nI 5) hx hb dL_isMerged_38 (by decide) ?_
      refine n_icmp_le (tgt := 48) hx hb (by omega) (by omega) dL_isMerged_39 (by decide) (fun c_39 => ?_) (fun c_39 => ?_)
      · skip
        exact absurd hcs (by omega)
      · skip
        refine lv_sipush (v := (-300)) hx hb dL_isMerged_42 (by decide) ?_
        refine lv_goto (tgt := 51) hx hb dL_isMerged_45 (by decide) ?_
        refine lv_icmp_ne (tgt := 58) hx hb dL_isMerged_51 (by decide) (fun c => absurd rfl c) (fun _ => ?_)
        refine lv_iconst (v := nI 1) hx hb dL_isMerged_54 (by decide) ?_
        refine lv_goto (tgt := 59) hx hb dL_isMerged_55 (by decide) ?_
        exact x_iret X h hr (by decide) rfl (fun _ _ => rfl) dL_isMerged_59
  · skip
    refine lv_iload hx hb dL_isMerged_6 (lv_at hl 11 rfl) ?_
    refine lv_iconst (v := nI 5) hx hb dL_isMerged_8 (by decide) ?_
    refine n_icmp_gt (tgt := 19) hx hb (by omega) (by omega) dL_isMerged_9 (by decide) (fun c_9 => ?_) (fun c_9 => ?_)
    · skip
      refine lv_aload_n hx hb dL_isMerged_19 rfl (lv_at hl 0 rfl) ?_
      refine lv_iconst (v := nI 4) hx hb dL_isMerged_20 (by decide) ?_
      refine lv_iload hx hb dL_isMerged_21 (lv_at hl 10 rfl) ?_
      refine lv_iload hx hb dL_isMerged_23 (lv_at hl 11 rfl) ?_
      refine lv_iconst (v := nI 0) hx hb dL_isMerged_25 (by decide) ?_
      refine lv_iconst (v := nI 0) hx hb dL_isMerged_26 (by decide) ?_
      refine x_doneI X h (x_runSH (n := 6) X h (w_does_merge_I (LL Y) hL (lv := 9) (by decide) (nI d) (nI o) (nI 0) (nI 0) (x_X6_merge_1 (LL Y) hst hL hG2.ok n mcs hBK (nI d) (nI o) (dev2_f hcs hd7 ho7)) _) q378 q5 q376 q377 ⟨by decide, by decide, by decide +kernel⟩ rfl (Nat.le_of_ble_eq_true rfl) (Nat.le_of_ble_eq_true rfl) ⟨Nat.le_of_ble_eq_true rfl, Nat.le_of_ble_eq_true rfl⟩ hl.1 (Nat.le_of_ble_eq_true rfl) dL_isMerged_27 rfl) (fun H locs h => ?_)
      refine lv_iload hx hb dL_isMerged_30 (lv_at hl 10 rfl) ?_
      refine lv_iconst (v := nI 5) hx hb dL_isMerged_32 (by decide) ?_
      refine n_icmp_gt (tgt := 42) hx hb (by omega) (by omega) dL_isMerged_33 (by decide) (fun c_33 => ?_) (fun c_33 => ?_)
      · skip
        refine lv_sipush (v := (-300)) hx hb dL_isMerged_42 (by decide) ?_
        refine lv_goto (tgt := 51) hx hb dL_isMerged_45 (by decide) ?_
        refine lv_icmp_ne (tgt := 58) hx hb dL_isMerged_51 (by decide) (fun c => absurd rfl c) (fun _ => ?_)
        refine lv_iconst (v := nI 1) hx hb dL_isMerged_54 (by decide) ?_
        refine lv_goto (tgt := 59) hx hb dL_isMerged_55 (by decide) ?_
        exact x_iret X h hr (by decide) rfl (fun _ _ => rfl) dL_isMerged_59
      · skip
        refine lv_iload hx hb dL_isMerged_36 (lv_at hl 11 rfl) ?_
        refine lv_iconst (v := nI 5) hx hb dL_isMerged_38 (by decide) ?_
        refine n_icmp_le (tgt := 48) hx hb (by omega) (by omega) dL_isMerged_39 (by decide) (fun c_39 => ?_) (fun c_39 => ?_)
        · skip
          exact absurd hcs (by omega)
        · skip
          refine lv_sipush (v := (-300)) hx hb dL_isMerged_42 (by decide) ?_
          refine lv_goto (tgt := 51) hx hb dL_isMerged_45 (by decide) ?_
          refine lv_icmp_ne (tgt := 58) hx hb dL_isMerged_51 (by decide) (fun c => absurd rfl c) (fun _ => ?_)
          refine lv_iconst (v := nI 1) hx hb dL_isMerged_54 (by decide) ?_
          refine lv_goto (tgt := 59) hx hb dL_isMerged_55 (by decide) ?_
          exact x_iret X h hr (by decide) rfl (fun _ _ => rfl) dL_isMerged_59
    · skip
      refine lv_iload hx hb dL_isMerged_12 (lv_at hl 10 rfl) ?_
      refine lv_iload hx hb dL_isMerged_14 (lv_at hl 11 rfl) ?_
      refine n_icmp_ne (tgt := 60) hx hb (by omega) (by omega) dL_isMerged_16 (by decide) (fun c_16 => ?_) (fun c_16 => ?_)
      · skip
        exact absurd hcs (by omega)
      · skip
        exact absurd hcs (by omega)

set_option maxHeartbeats 4000000 in
set_option maxRecDepth 100000 in
theorem m_L_isMerged_A {l : Launch} {D : va_G} {tc : TC} {dz : Nat} {ad : KN → Nat} {Ks : List KN} {gm : GM} (Y : Mem) (hL : LV gm Ks) (hst : l.stackTraces = false) (hG2 : GM2 gm) (n : Nat) (mcs : Nat → Nat) (hBK : BK gm (LL Y) 0 n mcs) (d o : Nat) (hd7 : d < 7) (ho7 : o < 7) (hcs : d = o ∧ d < 6) : MK l yL_isMerged cL_isMerged 23 (Option.some ClassFile.FieldType.boolean) 13 420 1 6 D tc dz ad Ks (lay tc ad gm dz (LL Y)) [.ref (ad (0, 0, 0, 0)), .ref (ad (35, 0, 0, 0)), .ref (ad (37, 0, 0, 0)), .ref (ad (39, 0, 0, 0)), .ref (ad (43, 0, 0, 0)), .ref (ad (44, 0, 0, 0)), .ref (ad (41, 0, 0, 0)), .ref (ad (42, 0, 0, 0)), .ref (ad (40, 0, 0, 0)), .ref (ad (45, 0, 0, 0)), .int (nI d), .int (nI o)] (bI true) (lay tc ad gm dz (LL Y)) := by
  intro sz
  refine x_ofW (by decide +kernel) (Nat.le_of_ble_eq_true rfl) (fun pp ee s mm bel meth cd ls X hr hin hz h hl => ?_)
  subst hz
  obtain ⟨hx, hb, hmaxL, hown, hts⟩ := id X.1
  have hl : lv_has ls 23 [(0, .ref (ad (0, 0, 0, 0))), (1, .ref (ad (35, 0, 0, 0))), (2, .ref (ad (37, 0, 0, 0))), (3, .ref (ad (39, 0, 0, 0))), (4, .ref (ad (43, 0, 0, 0))), (5, .ref (ad (44, 0, 0, 0))), (6, .ref (ad (41, 0, 0, 0))), (7, .ref (ad (42, 0, 0, 0))), (8, .ref (ad (40, 0, 0, 0))), (9, .ref (ad (45, 0, 0, 0))), (10, .int (nI d)), (11, .int (nI o))] := hl
  refine lv_iload hx hb dL_isMerged_0 (lv_at hl 10 rfl) ?_
  refine lv_iconst (v := nI 5) hx hb dL_isMerged_2 (by decide) ?_
  refine n_icmp_gt (tgt := 19) hx hb (by omega) (by omega) dL_isMerged_3 (by decide) (fun c_3 => ?_) (fun c_3 => ?_)
  · skip
    exact absurd hcs (by omega)
  · skip
    refine lv_iload hx hb dL_isMerged_6 (lv_at hl 11 rfl) ?_
    refine lv_iconst (v := nI 5) hx hb dL_isMerged_8 (by decide) ?_
    refine n_icmp_gt (tgt := 19) hx hb (by omega) (by omega) dL_isMerged_9 (by decide) (fun c_9 => ?_) (fun c_9 => ?_)
    · skip
      exact absurd hcs (by omega)
    · skip
      refine lv_iload hx hb dL_isMerged_12 (lv_at hl 10 rfl) ?_
      refine lv_iload hx hb dL_isMerged_14 (lv_at hl 11 rfl) ?_
      refine n_icmp_ne (tgt := 60) hx hb (by omega) (by omega) dL_isMerged_16 (by decide) (fun c_16 => ?_) (fun c_16 => ?_)
      · skip
        exact absurd hcs (by omega)
      · skip
        refine lv_aload_n hx hb dL_isMerged_19 rfl (lv_at hl 0 rfl) ?_
        refine lv_iconst (v := nI 4) hx hb dL_isMerged_20 (by decide) ?_
        refine lv_iload hx hb dL_isMerged_21 (lv_at hl 10 rfl) ?_
        refine lv_iload hx hb dL_isMerged_23 (lv_at hl 11 rfl) ?_
        refine lv_iconst (v := nI 0) hx hb dL_isMerged_25 (by decide) ?_
        refine lv_iconst (v := nI 0) hx hb dL_isMerged_26 (by decide) ?_
        refine x_doneI X h (x_runSH (n := 6) X h (w_does_merge_A (LL Y) hL (lv := 9) (by decide) (nI d) (nI o) (nI 0) (nI 0) (x_X6_merge_2 (LL Y) hst hL hG2.ok n mcs hBK d o hcs.2 (by omega) hcs.1) _) q378 q5 q376 q377 ⟨by decide, by decide, by decide +kernel⟩ rfl (Nat.le_of_ble_eq_true rfl) (Nat.le_of_ble_eq_true rfl) ⟨Nat.le_of_ble_eq_true rfl, Nat.le_of_ble_eq_true rfl⟩ hl.1 (Nat.le_of_ble_eq_true rfl) dL_isMerged_27 rfl) (fun H locs h => ?_)
        refine lv_iload hx hb dL_isMerged_30 (lv_at hl 10 rfl) ?_
        refine lv_iconst (v := nI 5) hx hb dL_isMerged_32 (by decide) ?_
        refine n_icmp_gt (tgt := 42) hx hb (by omega) (by omega) dL_isMerged_33 (by decide) (fun c_33 => ?_) (fun c_33 => ?_)
        · skip
          exact absurd hcs (by omega)
        · skip
          refine lv_iload hx hb dL_isMerged_36 (lv_at hl 11 rfl) ?_
          refine lv_iconst (v := nI 5) hx hb dL_isMerged_38 (by decide) ?_
          refine n_icmp_le (tgt := 48) hx hb (by omega) (by omega) dL_isMerged_39 (by decide) (fun c_39 => ?_) (fun c_39 => ?_)
          · skip
            refine lv_sipush (v := (-200)) hx hb dL_isMerged_48 (by decide) ?_
            refine lv_icmp_ne (tgt := 58) hx hb dL_isMerged_51 (by decide) (fun c => absurd rfl c) (fun _ => ?_)
            refine lv_iconst (v := nI 1) hx hb dL_isMerged_54 (by decide) ?_
            refine lv_goto (tgt := 59) hx hb dL_isMerged_55 (by decide) ?_
            exact x_iret X h hr (by decide) rfl (fun _ _ => rfl) dL_isMerged_59
          · skip
            exact absurd hcs (by omega)

set_option maxHeartbeats 4000000 in
set_option maxRecDepth 100000 in
theorem m_L_isMerged_ok {l : Launch} {D : va_G} {tc : TC} {dz : Nat} {ad : KN → Nat} {Ks : List KN} {gm : GM} (Y : Mem) (hL : LV gm Ks) (hst : l.stackTraces = false) (hW : LW gm Ks) (hG2 : GM2 gm) (V : Nat → BS) (acts : Nat → Act) (z n m t : Nat) (ac mcs : Nat → Nat) (cn : Nat) (hS : LWS Y gm V acts z n m t ac mcs cn) (hcn : cn < 58) (d o : Nat) (hd : d < 6) (ho : o < 6) (hne : d ≠ o) : MK l yL_isMerged cL_isMerged 23 (Option.some ClassFile.FieldType.boolean) 13 420 0 0 D tc dz ad Ks (lay tc ad gm dz (LL Y)) [.ref (ad (0, 0, 0, 0)), .ref (ad (35, 0, 0, 0)), .ref (ad (37, 0, 0, 0)), .ref (ad (39, 0, 0, 0)), .ref (ad (43, 0, 0, 0)), .ref (ad (44, 0, 0, 0)), .ref (ad (41, 0, 0, 0)), .ref (ad (42, 0, 0, 0)), .ref (ad (40, 0, 0, 0)), .ref (ad (45, 0, 0, 0)), .int (nI d), .int (nI o)] (bI true) (lay tc ad gm dz (mgdM (jwM (LL (mmM Y d o m n)) z (nI 4) (nI d) (nI o) (nI 0) (nI 0)) 0 d o mcs n)) := by
  intro sz
  have hok := hS.2.1
  have hn2 := hS.2.2.1
  have hm10 := hS.2.2.2
  have hN := nr_of hS.1.1
  have ht9 : t ≤ 2000 := by have := hS.1.2.2.2.2.2.2.2.2.2.1; omega
  have hG : ∀ k : KN, k.1 < 30 → mmM Y d o m n k = Y k := fun k hk => mm_lo hk n
  have hz6 : z < 512 := Nat.lt_of_le_of_lt hS.1.2.2.2.2.2.2.2.1 (by omega)
  have hEq : mgdR (jwM (LL (mmM Y d o m n)) z (nI 4) (nI d) (nI o) (nI 0) (nI 0)) 0 d o mcs n = nI (100 * mmG Y d o m n + mgN Y d o m n) := by rw [← (st_merge hS hd ho hne).2, mm_gn hok hne n hn2, nI_add, Nat.add_comm]
  have hgG := mmG_le (I := Y) (d := d) (o := o) (m := m) n
  have hgN := mgN_le Y d o m n
  refine x_ofW (by decide +kernel) (Nat.le_of_ble_eq_true rfl) (fun pp ee s mm bel meth cd ls X hr hin hz h hl => ?_)
  subst hz
  obtain ⟨hx, hb, hmaxL, hown, hts⟩ := id X.1
  have hl : lv_has ls 23 [(0, .ref (ad (0, 0, 0, 0))), (1, .ref (ad (35, 0, 0, 0))), (2, .ref (ad (37, 0, 0, 0))), (3, .ref (ad (39, 0, 0, 0))), (4, .ref (ad (43, 0, 0, 0))), (5, .ref (ad (44, 0, 0, 0))), (6, .ref (ad (41, 0, 0, 0))), (7, .ref (ad (42, 0, 0, 0))), (8, .ref (ad (40, 0, 0, 0))), (9, .ref (ad (45, 0, 0, 0))), (10, .int (nI d)), (11, .int (nI o))] := hl
  refine lv_iload hx hb dL_isMerged_0 (lv_at hl 10 rfl) ?_
  refine lv_iconst (v := nI 5) hx hb dL_isMerged_2 (by decide) ?_
  refine n_icmp_gt (tgt := 19) hx hb (by omega) (by omega) dL_isMerged_3 (by decide) (fun c_3 => ?_) (fun c_3 => ?_)
  · skip
    exact absurd hd (by omega)
  · skip
    refine lv_iload hx hb dL_isMerged_6 (lv_at hl 11 rfl) ?_
    refine lv_iconst (v := nI 5) hx hb dL_isMerged_8 (by decide) ?_
    refine n_icmp_gt (tgt := 19) hx hb (by omega) (by omega) dL_isMerged_9 (by decide) (fun c_9 => ?_) (fun c_9 => ?_)
    · skip
      exact absurd ho (by omega)
    · skip
      refine lv_iload hx hb dL_isMerged_12 (lv_at hl 10 rfl) ?_
      refine lv_iload hx hb dL_isMerged_14 (lv_at hl 11 rfl) ?_
      refine n_icmp_ne (tgt := 60) hx hb (by omega) (by omega) dL_isMerged_16 (by decide) (fun c_16 => ?_) (fun c_16 => ?_)
      · skip
        refine lv_iconst (v := nI 0) hx hb dL_isMerged_60 (by decide) ?_
        refine lv_istore (lv' := [(12, .int (nI 0)), (0, .ref (ad (0, 0, 0, 0))), (1, .ref (ad (35, 0, 0, 0))), (2, .ref (ad (37, 0, 0, 0))), (3, .ref (ad (39, 0, 0, 0))), (4, .ref (ad (43, 0, 0, 0))), (5, .ref (ad (44, 0, 0, 0))), (6, .ref (ad (41, 0, 0, 0))), (7, .ref (ad (42, 0, 0, 0))), (8, .ref (ad (40, 0, 0, 0))), (9, .ref (ad (45, 0, 0, 0))), (10, .int (nI d)), (11, .int (nI o))]) hx hb dL_isMerged_61 hl (by decide) rfl (fun ls hl => ?_)
        refine lv_iconst (v := nI 0) hx hb dL_isMerged_63 (by decide) ?_
        refine lv_istore (lv' := [(13, .int (nI 0)), (12, .int (nI 0)), (0, .ref (ad (0, 0, 0, 0))), (1, .ref (ad (35, 0, 0, 0))), (2, .ref (ad (37, 0, 0, 0))), (3, .ref (ad (39, 0, 0, 0))), (4, .ref (ad (43, 0, 0, 0))), (5, .ref (ad (44, 0, 0, 0))), (6, .ref (ad (41, 0, 0, 0))), (7, .ref (ad (42, 0, 0, 0))), (8, .ref (ad (40, 0, 0, 0))), (9, .ref (ad (45, 0, 0, 0))), (10, .int (nI d)), (11, .int (nI o))]) hx hb dL_isMerged_64 hl (by decide) rfl (fun ls hl => ?_)
        have h := h.law hW (mm0_LAe (d := d) (o := o) (m := m))
        refine lv_iconst (v := nI 0) hx hb dL_isMerged_66 (by decide) ?_
        refine lv_istore (lv' := [(14, .int (nI 0)), (13, .int (nI 0)), (12, .int (nI 0)), (0, .ref (ad (0, 0, 0, 0))), (1, .ref (ad (35, 0, 0, 0))), (2, .ref (ad (37, 0, 0, 0))), (3, .ref (ad (39, 0, 0, 0))), (4, .ref (ad (43, 0, 0, 0))), (5, .ref (ad (44, 0, 0, 0))), (6, .ref (ad (41, 0, 0, 0))), (7, .ref (ad (42, 0, 0, 0))), (8, .ref (ad (40, 0, 0, 0))), (9, .ref (ad (45, 0, 0, 0))), (10, .int (nI d)), (11, .int (nI o))]) hx hb dL_isMerged_67 hl (by decide) rfl (fun ls hl => ?_)
        refine y_loop (D := D) (A := wA ad Ks s.heap.size) (ad := ad) (Ks := Ks) (nL := 23) (fun k : Nat => lay tc ad gm dz (LL (mmM Y d o m k))) (fun k => [(14, .int (nI k)), (13, .int (nI (mgN Y d o m k))), (12, .int (nI (mmG Y d o m k))), (0, .ref (ad (0, 0, 0, 0))), (1, .ref (ad (35, 0, 0, 0))), (2, .ref (ad (37, 0, 0, 0))), (3, .ref (ad (39, 0, 0, 0))), (4, .ref (ad (43, 0, 0, 0))), (5, .ref (ad (44, 0, 0, 0))), (6, .ref (ad (41, 0, 0, 0))), (7, .ref (ad (42, 0, 0, 0))), (8, .ref (ad (40, 0, 0, 0))), (9, .ref (ad (45, 0, 0, 0))), (10, .int (nI d)), (11, .int (nI o))]) (fun _ => []) (fun k : Nat => k ≤ n) (fun k => n - k) (fun k hi69 ih69 H locs ls h hl => ?_) 0 (Nat.zero_le _) (h.eq (congrArg (lay tc ad gm dz) rfl)) (lv_sub hl [0, 1, 2, 3, 4, 5, 6, 7, 8, 9, 10, 11, 12, 13, 14] rfl) rfl
        have h : Sx D (wA ad Ks s.heap.size) ad Ks (lay tc ad gm dz (LL (mmM Y d o m k))) s H locs := h
        have hl : lv_has ls 23 [(14, .int (nI k)), (13, .int (nI (mgN Y d o m k))), (12, .int (nI (mmG Y d o m k))), (0, .ref (ad (0, 0, 0, 0))), (1, .ref (ad (35, 0, 0, 0))), (2, .ref (ad (37, 0, 0, 0))), (3, .ref (ad (39, 0, 0, 0))), (4, .ref (ad (43, 0, 0, 0))), (5, .ref (ad (44, 0, 0, 0))), (6, .ref (ad (41, 0, 0, 0))), (7, .ref (ad (42, 0, 0, 0))), (8, .ref (ad (40, 0, 0, 0))), (9, .ref (ad (45, 0, 0, 0))), (10, .int (nI d)), (11, .int (nI o))] := hl
        refine lv_iload hx hb dL_isMerged_69 (lv_at hl 0 rfl) ?_
        refine lv_aload hx hb dL_isMerged_71 (lv_at hl 12 rfl) ?_
        refine lv_iconst (v := nI 0) hx hb dL_isMerged_73 (by decide) ?_
        refine y_ald X h (fun _ => rfl) (by decide) (hL (45, 0, 0, 0) ⟨by decide, rfl, rfl, rfl⟩) (by omega) (v := nI n) (gc_0.trans (nr_mm hN k).1) dL_isMerged_74 ?_
        refine n_icmp_ge (tgt := 464) hx hb (by omega) (by omega) dL_isMerged_75 (by decide) (fun c_75 => ?_) (fun c_75 => ?_)
        · skip
          have him : k = n := by omega
          rw [him] at h hl
          refine lv_aload_n hx hb dL_isMerged_464 rfl (lv_at hl 3 rfl) ?_
          refine lv_iconst (v := nI 4) hx hb dL_isMerged_465 (by decide) ?_
          refine lv_iload hx hb dL_isMerged_466 (lv_at hl 13 rfl) ?_
          refine lv_iload hx hb dL_isMerged_468 (lv_at hl 14 rfl) ?_
          refine lv_iconst (v := nI 0) hx hb dL_isMerged_470 (by decide) ?_
          refine lv_iconst (v := nI 0) hx hb dL_isMerged_471 (by decide) ?_
          refine x_doneI X h (x_runSH (n := 6) X h (w_does_merge_ok (LL (mmM Y d o m n)) hL (lv := 9) (by decide) (nI d) (nI o) (nI 0) (nI 0) (m_X6_merge (LL (mmM Y d o m n)) hL hG2.ok n mcs (lb_bk hS.1 hG) z (lb_z hS.1 hG) hz6 d o hd ho hne) _) q378 q5 q376 q377 ⟨by decide, by decide, by decide +kernel⟩ rfl (Nat.le_of_ble_eq_true rfl) (Nat.le_of_ble_eq_true rfl) ⟨Nat.le_of_ble_eq_true rfl, Nat.le_of_ble_eq_true rfl⟩ hl.1 (Nat.le_of_ble_eq_true rfl) dL_isMerged_472 rfl) (fun H locs h => ?_)
          refine lv_bipush (v := nI 100) hx hb dL_isMerged_475 (by decide) ?_
          refine lv_iload hx hb dL_isMerged_477 (lv_at hl 2 rfl) ?_
          refine n_imul hx hb dL_isMerged_479 ?_
          refine lv_iload hx hb dL_isMerged_480 (lv_at hl 1 rfl) ?_
          refine n_iadd hx hb dL_isMerged_482 ?_
          refine lv_icmp_ne (tgt := 490) hx hb dL_isMerged_483 (by decide) (fun c => absurd hEq c) (fun _ => ?_)
          refine lv_iconst (v := nI 1) hx hb dL_isMerged_486 (by decide) ?_
          refine lv_goto (tgt := 491) hx hb dL_isMerged_487 (by decide) ?_
          exact x_iret X h hr (by decide) rfl (fun _ _ => rfl) dL_isMerged_491
        · skip
          refine mg_entry X (Nat.le_of_ble_eq_true rfl) (Nat.le_of_ble_eq_true rfl) (Nat.le_of_ble_eq_true rfl) (Nat.le_of_ble_eq_true rfl) hL (mmM Y d o m k) hW (ok_mm hok k) n m t (nr_mm hN k) hn2 hm10 ht9 d o k (mmG Y d o m k) (mgN Y d o m k) hd ho (by omega) hne h (lv_sub hl [0, 1, 2, 3, 4, 5, 6, 7, 8, 9, 10, 11, 12, 13, 14] rfl) (fun H locs ls h hl => ?_)
          have h : Sx D (wA ad Ks s.heap.size) ad Ks (lay tc ad gm dz (LL (mmM Y d o m (k + 1)))) s H locs := h
          have hl : lv_has ls 23 [(14, .int (nI k)), (13, .int (nI (mgN Y d o m (k + 1)))), (12, .int (nI (mmG Y d o m (k + 1)))), (0, .ref (ad (0, 0, 0, 0))), (1, .ref (ad (35, 0, 0, 0))), (2, .ref (ad (37, 0, 0, 0))), (3, .ref (ad (39, 0, 0, 0))), (4, .ref (ad (43, 0, 0, 0))), (5, .ref (ad (44, 0, 0, 0))), (6, .ref (ad (41, 0, 0, 0))), (7, .ref (ad (42, 0, 0, 0))), (8, .ref (ad (40, 0, 0, 0))), (9, .ref (ad (45, 0, 0, 0))), (10, .int (nI d)), (11, .int (nI o))] := hl
          refine n_iinc (j := k) (n := 1) (lv' := [(14, .int (nI (k + 1))), (13, .int (nI (mgN Y d o m (k + 1)))), (12, .int (nI (mmG Y d o m (k + 1)))), (0, .ref (ad (0, 0, 0, 0))), (1, .ref (ad (35, 0, 0, 0))), (2, .ref (ad (37, 0, 0, 0))), (3, .ref (ad (39, 0, 0, 0))), (4, .ref (ad (43, 0, 0, 0))), (5, .ref (ad (44, 0, 0, 0))), (6, .ref (ad (41, 0, 0, 0))), (7, .ref (ad (42, 0, 0, 0))), (8, .ref (ad (40, 0, 0, 0))), (9, .ref (ad (45, 0, 0, 0))), (10, .int (nI d)), (11, .int (nI o))]) hx hb dL_isMerged_458 hl (k := 0) rfl (by decide) (by decide) rfl (fun ls hl => ?_)
          refine lv_goto (tgt := 69) hx hb dL_isMerged_461 (by decide) ?_
          exact ih69 (k + 1) (by omega) (by omega) H locs ls (h.eq (congrArg (lay tc ad gm dz) rfl)) (lv_sub hl [0, 1, 2, 3, 4, 5, 6, 7, 8, 9, 10, 11, 12, 13, 14] rfl)
      · skip
        exact absurd c_16 hne
