set_option maxHeartbeats 4000000 in
set_option maxRecDepth 100000 in
theorem m_X6_valueAnew {l : Launch} {D : va_G} {tc : TC} {dz : Nat} {ad : KN → Nat} {Ks : List KN} {gm : GM} (I : Mem) (hL : LV gm Ks) (hW : LW gm Ks) (hG2 : GM2 gm) (V : Nat → BS) (acts : Nat → Act) (z : Nat) (hz : z ≤ 512) (hR : Runs V acts z) (hJR : JR I acts z) (hS0 : SB 0 0 (V z).2.2 I I (V z).1) (d e f : Nat) (hd : d < 6) (he : e < (V z).2.1) (hf : f < 4) (hk : nz (I (9, 0, e, d) 0) = true) (j : Nat) (hj : j < cvF (I (10, 0, e, d)) f) : GI l yX6_valueAnew cX6_valueAnew 5 (Option.some ClassFile.FieldType.int) 11 (5 * need (fun e => (gm 1 e).1) (V z).2.2 10) (2111 * need (fun e => (gm 1 e).1) (V z).2.2 10) D tc dz ad Ks (lay tc ad gm dz I) [.ref (ad (0, 0, 0, 0)), .int (nI d), .int (nI e), .int (nI f), .int (nI j)] (fun r u => r = vFrom (I (10, 0, e, d)) (I (11, 0, e, d)) f 6 0 j ∧ NAw tc dz V I gm ad Ks z u) := by
  intro sz
  have hG := hG2.ok
  refine x_ofW (by decide +kernel) (Nat.le_of_ble_eq_true rfl) (fun pp ee s mm bel meth cd ls X hr hin hz9 h hl => ?_)
  subst hz9
  obtain ⟨hx, hb, hmaxL, hown, hts⟩ := id X.1
  have hl : lv_has ls 5 [(0, .ref (ad (0, 0, 0, 0))), (1, .int (nI d)), (2, .int (nI e)), (3, .int (nI f)), (4, .int (nI j))] := hl
  refine lv_aload_n hx hb dX6_valueAnew_0 rfl (lv_at hl 0 rfl) ?_
  refine gf_BraidBook_booksAnew X h (hL (0, 0, 0, 0) ⟨rfl, rfl, rfl⟩) q189 dX6_valueAnew_1 ?_
  refine x_doneV X h (x_runV X h (k := (1, 1, 0, 0)) (m_X0_clear I 1 hL hG (by omega) _) F_X0_clear q692 q693 q694 (hL (1, 1, 0, 0) ⟨by omega, rfl, rfl⟩) rfl rfl rfl (Nat.le_of_ble_eq_true rfl) (Nat.le_of_ble_eq_true rfl) ⟨Nat.zero_le _, Nat.zero_le _⟩ hl.1 (Nat.le_of_ble_eq_true rfl) dX6_valueAnew_4 rfl) (fun H locs h => ?_)
  have h : Sx D (wA ad Ks s.heap.size) ad Ks (lay tc ad gm dz (zerM I)) s H locs := h.congr (bcr_lay hW)
  refine lv_aload_n hx hb dX6_valueAnew_7 rfl (lv_at hl 0 rfl) ?_
  refine gf_BraidBook_journal X h (hL (0, 0, 0, 0) ⟨rfl, rfl, rfl⟩) q190 dX6_valueAnew_8 ?_
  refine lv_aload_n hx hb dX6_valueAnew_11 rfl (lv_at hl 0 rfl) ?_
  refine gf_BraidBook_booksAnew X h (hL (0, 0, 0, 0) ⟨rfl, rfl, rfl⟩) q189 dX6_valueAnew_12 ?_
  refine g_doneV X h (x_runV X h (k := (20, 0, 0, 0)) (m_X3_repeatOn (zerM I) V acts z hz hR (zer_RS hR hL hW hG2) (zer_JR hJR).1 (zer_JR hJR).2 _) F_X3_repeatOn q706 q707 q708 (hL (20, 0, 0, 0) ⟨by decide, rfl, rfl, rfl⟩) rfl rfl rfl (Nat.le_of_ble_eq_true rfl) (Nat.le_of_ble_eq_true rfl) ⟨by show 0 + 5 * need (fun e => (gm 1 e).1) (V z).2.2 10 ≤ 5 * need (fun e => (gm 1 e).1) (V z).2.2 10 + 0; omega, by show 0 + 2111 * need (fun e => (gm 1 e).1) (V z).2.2 10 ≤ 2111 * need (fun e => (gm 1 e).1) (V z).2.2 10 + 0; omega⟩ hl.1 (Nat.le_of_ble_eq_true rfl) dX6_valueAnew_15 rfl) (fun u H locs hP h => ?_)
  obtain ⟨ad1, Ks1, st1⟩ := u
  obtain ⟨gm1, I1, hRS, hst1⟩ := hP
  have hRS : RS V (zerM I) gm ad Ks z ad1 Ks1 gm1 I1 := hRS
  have hst1 : ∀ k, k ∈ Ks1 → st1 k = lay tc ad1 gm1 dz I1 k := hst1
  have h : Sx D (wA ad Ks s.heap.size) ad1 Ks1 (lay tc ad1 gm1 dz I1) s H locs := h.congr hst1
  have hNA : NAw tc dz V I gm ad Ks z (ad1, Ks1, lay tc ad1 gm1 dz I1) := ⟨gm1, I1, hRS, fun _ _ => rfl⟩
  have hB1 := hRS.bk (hR.bn z (Nat.le_refl z))
  have hL1 := hRS.2.2.2.2.1
  have hG1 := hRS.2.1.ok
  have hS1 := hRS.1
  have e0 : ad1 (0, 0, 0, 0) = ad (0, 0, 0, 0) := hRS.2.2.2.2.2.2 _ (hL (0, 0, 0, 0) ⟨rfl, rfl, rfl⟩) (kz rfl)
  rw [← e0] at hl
  refine lv_aload_n hx hb dX6_valueAnew_18 rfl (lv_at hl 0 rfl) ?_
  refine gf_BraidBook_booksAnew X h (hL1 (0, 0, 0, 0) ⟨rfl, rfl, rfl⟩) q189 dX6_valueAnew_19 ?_
  refine lv_iload_n hx hb dX6_valueAnew_22 rfl (lv_at hl 1 rfl) ?_
  refine lv_iload_n hx hb dX6_valueAnew_23 rfl (lv_at hl 2 rfl) ?_
  refine lv_iload_n hx hb dX6_valueAnew_24 rfl (lv_at hl 3 rfl) ?_
  refine lv_iload hx hb dX6_valueAnew_25 (lv_at hl 4 rfl) ?_
  have hk1 : nz (I1 (9, 1, e, d) 0) = true := by rw [two_books hS1 hS0 9 e d (by decide)]; exact hk
  have hj1 : j < cvF (I1 (10, 1, e, d)) f := by rw [two_books hS1 hS0 10 e d (by decide)]; exact hj
  refine x_doneI X h (x_runS X h (m_X6_valueIn I1 1 hL1 hG1 (Nat.le_of_ble_eq_true rfl) (V z).2.1 (V z).2.2 hB1 d e f hd he hf hk1 j hj1 _) F_X6_valueIn q679 q680 rfl (Nat.le_of_ble_eq_true rfl) (Nat.le_of_ble_eq_true rfl) ⟨by show 0 + 5 * need (fun e => (gm 1 e).1) (V z).2.2 10 ≤ _; exact Nat.le_of_eq (Nat.zero_add _), by show 0 + 2111 * need (fun e => (gm 1 e).1) (V z).2.2 10 ≤ _; exact Nat.le_of_eq (Nat.zero_add _)⟩ hl.1 (Nat.le_of_ble_eq_true rfl) dX6_valueAnew_27 rfl) (fun H locs h => ?_)
  rw [two_books hS1 hS0 10 e d (by decide), two_books hS1 hS0 11 e d (by decide)]
  exact g_iret X h hr rfl ⟨rfl, hNA⟩ (Nat.le_of_eq (Nat.zero_add _)) (Nat.le_of_eq (Nat.zero_add _)) dX6_valueAnew_30

set_option maxHeartbeats 4000000 in
set_option maxRecDepth 100000 in
theorem x_X6_valueAnew_1 {l : Launch} {D : va_G} {tc : TC} {dz : Nat} {ad : KN → Nat} {Ks : List KN} {gm : GM} (I : Mem) (hst : l.stackTraces = false) (hL : LV gm Ks) (hW : LW gm Ks) (hG2 : GM2 gm) (V : Nat → BS) (acts : Nat → Act) (z : Nat) (hz : z ≤ 512) (hR : Runs V acts z) (hJR : JR I acts z) (hS0 : SB 0 0 (V z).2.2 I I (V z).1) (x y u w : Int32) (h0 : (ckn I 0 (V z).2.1 x y && (isFld u && cix I 0 x y u w)) = false) : GX l yX6_valueAnew cX6_valueAnew 5 (Option.some ClassFile.FieldType.int) 11 (5 * need (fun e => (gm 1 e).1) (V z).2.2 10 + 1) (2111 * need (fun e => (gm 1 e).1) (V z).2.2 10 + 6) D tc dz ad Ks (lay tc ad gm dz I) [.ref (ad (0, 0, 0, 0)), .int x, .int y, .int u, .int w] exI (NAw tc dz V I gm ad Ks z) := by
  intro sz
  have hG := hG2.ok
  refine x_ofX (by decide +kernel) (Nat.le_of_ble_eq_true rfl) (fun pp ee s mm bel meth cd ls X htab hz9 h hl => ?_)
  subst hz9
  obtain ⟨hx, hb, hmaxL, hown, hts⟩ := id X.1
  have hl : lv_has ls 5 [(0, .ref (ad (0, 0, 0, 0))), (1, .int x), (2, .int y), (3, .int u), (4, .int w)] := hl
  refine lv_aload_n hx hb dX6_valueAnew_0 rfl (lv_at hl 0 rfl) ?_
  refine gf_BraidBook_booksAnew X h (hL (0, 0, 0, 0) ⟨rfl, rfl, rfl⟩) q189 dX6_valueAnew_1 ?_
  refine x_doneV X h (x_runV X h (k := (1, 1, 0, 0)) (m_X0_clear I 1 hL hG (by omega) _) F_X0_clear q692 q693 q694 (hL (1, 1, 0, 0) ⟨by omega, rfl, rfl⟩) rfl rfl rfl (Nat.le_of_ble_eq_true rfl) (Nat.le_of_ble_eq_true rfl) ⟨Nat.zero_le _, Nat.zero_le _⟩ hl.1 (Nat.le_of_ble_eq_true rfl) dX6_valueAnew_4 rfl) (fun H locs h => ?_)
  have h : Sx D (wA ad Ks s.heap.size) ad Ks (lay tc ad gm dz (zerM I)) s H locs := h.congr (bcr_lay hW)
  refine lv_aload_n hx hb dX6_valueAnew_7 rfl (lv_at hl 0 rfl) ?_
  refine gf_BraidBook_journal X h (hL (0, 0, 0, 0) ⟨rfl, rfl, rfl⟩) q190 dX6_valueAnew_8 ?_
  refine lv_aload_n hx hb dX6_valueAnew_11 rfl (lv_at hl 0 rfl) ?_
  refine gf_BraidBook_booksAnew X h (hL (0, 0, 0, 0) ⟨rfl, rfl, rfl⟩) q189 dX6_valueAnew_12 ?_
  refine g_doneV X h (x_runV X h (k := (20, 0, 0, 0)) (m_X3_repeatOn (zerM I) V acts z hz hR (zer_RS hR hL hW hG2) (zer_JR hJR).1 (zer_JR hJR).2 _) F_X3_repeatOn q706 q707 q708 (hL (20, 0, 0, 0) ⟨by decide, rfl, rfl, rfl⟩) rfl rfl rfl (Nat.le_of_ble_eq_true rfl) (Nat.le_of_ble_eq_true rfl) ⟨by show 0 + 5 * need (fun e => (gm 1 e).1) (V z).2.2 10 ≤ 5 * need (fun e => (gm 1 e).1) (V z).2.2 10 + 1; omega, by show 0 + 2111 * need (fun e => (gm 1 e).1) (V z).2.2 10 ≤ 2111 * need (fun e => (gm 1 e).1) (V z).2.2 10 + 6; omega⟩ hl.1 (Nat.le_of_ble_eq_true rfl) dX6_valueAnew_15 rfl) (fun u H locs hP h => ?_)
  obtain ⟨ad1, Ks1, st1⟩ := u
  obtain ⟨gm1, I1, hRS, hst1⟩ := hP
  have hRS : RS V (zerM I) gm ad Ks z ad1 Ks1 gm1 I1 := hRS
  have hst1 : ∀ k, k ∈ Ks1 → st1 k = lay tc ad1 gm1 dz I1 k := hst1
  have h : Sx D (wA ad Ks s.heap.size) ad1 Ks1 (lay tc ad1 gm1 dz I1) s H locs := h.congr hst1
  have hNA : NAw tc dz V I gm ad Ks z (ad1, Ks1, lay tc ad1 gm1 dz I1) := ⟨gm1, I1, hRS, fun _ _ => rfl⟩
  have hB1 := hRS.bk (hR.bn z (Nat.le_refl z))
  have hL1 := hRS.2.2.2.2.1
  have hG1 := hRS.2.1.ok
  have hS1 := hRS.1
  have e0 : ad1 (0, 0, 0, 0) = ad (0, 0, 0, 0) := hRS.2.2.2.2.2.2 _ (hL (0, 0, 0, 0) ⟨rfl, rfl, rfl⟩) (kz rfl)
  rw [← e0] at hl
  refine lv_aload_n hx hb dX6_valueAnew_18 rfl (lv_at hl 0 rfl) ?_
  refine gf_BraidBook_booksAnew X h (hL1 (0, 0, 0, 0) ⟨rfl, rfl, rfl⟩) q189 dX6_valueAnew_19 ?_
  refine lv_iload_n hx hb dX6_valueAnew_22 rfl (lv_at hl 1 rfl) ?_
  refine lv_iload_n hx hb dX6_valueAnew_23 rfl (lv_at hl 2 rfl) ?_
  refine lv_iload_n hx hb dX6_valueAnew_24 rfl (lv_at hl 3 rfl) ?_
  refine lv_iload hx hb dX6_valueAnew_25 (lv_at hl 4 rfl) ?_
  have h1 : (ckn I1 1 (V z).2.1 x y && (isFld u && cix I1 1 x y u w)) = false := by
    rw [← h0]
    unfold ckn cix
    rw [two_books hS1 hS0 9 _ _ (by decide), two_books hS1 hS0 10 _ _ (by decide)]
  refine x_xdone X h (x_xrunS X h (x_X6_valueIn I1 hst 1 hL1 hG1 (Nat.le_of_ble_eq_true rfl) (V z).2.1 (V z).2.2 hB1 x y u w h1 _) F_X6_valueIn q679 q680 rfl (Nat.le_of_ble_eq_true rfl) (Nat.le_of_ble_eq_true rfl) ⟨by show 0 + 5 * need (fun e => (gm 1 e).1) (V z).2.2 10 + 1 ≤ 5 * need (fun e => (gm 1 e).1) (V z).2.2 10 + 1; omega, by show 0 + 2111 * need (fun e => (gm 1 e).1) (V z).2.2 10 + 6 ≤ 2111 * need (fun e => (gm 1 e).1) (V z).2.2 10 + 6; omega⟩ hl.1 (Nat.le_of_ble_eq_true rfl) dX6_valueAnew_27 rfl) (fun ce q9 H locs h hcell hcv hccl => ?_)
  exact g_xout X h htab hcell hcv hccl hNA (by show 0 + 5 * need (fun e => (gm 1 e).1) (V z).2.2 10 + 1 ≤ 5 * need (fun e => (gm 1 e).1) (V z).2.2 10 + 1; omega) (by show 0 + 2111 * need (fun e => (gm 1 e).1) (V z).2.2 10 + 6 ≤ 2111 * need (fun e => (gm 1 e).1) (V z).2.2 10 + 6; omega)
