set_option maxHeartbeats 4000000 in
set_option maxRecDepth 100000 in
theorem m_X0_setMark {l : Launch} {D : va_G} {tc : TC} {dz : Nat} {ad : KN → Nat} {Ks : List KN} {gm : GM} (I : Mem) (b : Nat) (hL : LV gm Ks) (hW : LW gm Ks) (hG2 : GM2 gm) (hb2 : b < 2) (n : Nat) (mcs : Nat → Nat) (hB : BK gm I b n mcs) (hmc6 : ∀ e, e < n → mcs e < 600) (d e : Nat) (hd : d < 6) (he : e < n) : GI l yX0_setMark cX0_setMark 4 (Option.some ClassFile.FieldType.int) 9 (if mcs e < (gm b e).1 then 0 else 5) (if mcs e < (gm b e).1 then 0 else 2 * (gm b e).1 + 43) D tc dz ad Ks (lay tc ad gm dz I) [.ref (ad (1, b, 0, 0)), .int (nI d), .int (nI e)] (fun r u => r = nI (cvA (I (10, b, e, d))) ∧ GrP tc dz gm b e (max (gm b e).1 (mcs e + 1)) (addM (nxtM I b d) b e d (mcs e) (I (1, b, 0, 0) 0)) ad Ks u) := by
  intro sz
  have hG := hG2.ok; obtain ⟨hn, hn10, hmk⟩ := id hB; have hmc6 := hmc6 e he
  refine x_ofW (by decide +kernel) (Nat.le_of_ble_eq_true rfl) (fun pp ee s mm bel meth cd ls X hr hin hz h hl => ?_)
  subst hz
  obtain ⟨hx, hb, hmaxL, hown, hts⟩ := id X.1
  have hl : lv_has ls 4 [(0, .ref (ad (1, b, 0, 0))), (1, .int (nI d)), (2, .int (nI e))] := hl
  refine lv_aload_n hx hb dX0_setMark_0 rfl (lv_at hl 0 rfl) ?_
  refine lv_iload_n hx hb dX0_setMark_1 rfl (lv_at hl 2 rfl) ?_
  refine x_doneA X h (x_runV X h (k := (1, b, 0, 0)) (m_X0_find_in I b hL hG (by omega) n mcs hB e (by omega) _) F_X0_find q464 q430 q431 (hL (1, b, 0, 0) ⟨by omega, rfl, rfl⟩) rfl rfl rfl (Nat.le_of_ble_eq_true rfl) (Nat.le_of_ble_eq_true rfl) ⟨Nat.zero_le _, Nat.zero_le _⟩ hl.1 (Nat.le_of_ble_eq_true rfl) dX0_setMark_2 rfl) (fun H locs h => ?_)
  refine lv_astore_n (lv' := [(3, .ref (ad (4, b, e, 0))), (0, .ref (ad (1, b, 0, 0))), (1, .int (nI d)), (2, .int (nI e))]) hx hb dX0_setMark_5 rfl hl (by decide) rfl (fun ls hl => ?_)
  refine lv_aload_n hx hb dX0_setMark_6 rfl (lv_at hl 0 rfl) ?_
  refine lv_ifnull hx hb dX0_setMark_7 ?_
  refine lv_iload_n hx hb dX0_setMark_10 rfl (lv_at hl 2 rfl) ?_
  refine x_doneI X h (x_runSN X h (m_X6_isDevice_in I d (by omega) _) F_X6_isDevice t420 q206 rfl (Nat.le_of_ble_eq_true rfl) (Nat.le_of_ble_eq_true rfl) ⟨Nat.zero_le _, Nat.zero_le _⟩ hl.1 (Nat.le_of_ble_eq_true rfl) dX0_setMark_11 rfl) (fun H locs h => ?_)
  refine b_if_ne (tgt := 19) hx hb dX0_setMark_14 (by decide) (fun _ => ?_) (fun c => (Bool.noConfusion c))
  refine lv_aload_n hx hb dX0_setMark_19 rfl (lv_at hl 1 rfl) ?_
  refine lv_iload_n hx hb dX0_setMark_20 rfl (lv_at hl 2 rfl) ?_
  refine x_doneI X h (x_runV X h (k := (1, b, 0, 0)) (m_X0_nextAct I b hL (by omega) d (by omega) _) F_X0_nextAct q471 q472 q473 (hL (1, b, 0, 0) ⟨by omega, rfl, rfl⟩) rfl rfl rfl (Nat.le_of_ble_eq_true rfl) (Nat.le_of_ble_eq_true rfl) ⟨Nat.zero_le _, Nat.zero_le _⟩ hl.1 (Nat.le_of_ble_eq_true rfl) dX0_setMark_21 rfl) (fun H locs h => ?_)
  refine lv_pop hx hb dX0_setMark_24 rfl ?_
  refine lv_aload_n hx hb dX0_setMark_25 rfl (lv_at hl 0 rfl) ?_
  refine lv_iload_n hx hb dX0_setMark_26 rfl (lv_at hl 2 rfl) ?_
  refine lv_aload_n hx hb dX0_setMark_27 rfl (lv_at hl 1 rfl) ?_
  refine gf_Books_month X h (hL (1, b, 0, 0) ⟨by omega, rfl, rfl⟩) q148 (v := (nxtM I b d) (1, b, 0, 0) 0) rfl dX0_setMark_28 ?_
  refine g_doneV X h (x_runV X h (k := (4, b, e, 0)) (m_X2_addMark (nxtM I b d) b e d (mcs e) ((nxtM I b d) (1, b, 0, 0) 0) hL hW hG2 hb2 (by omega) (by omega) (hmk e (by omega)).1 (hmk e (by omega)).2 (by have := hG2 b e; have := (hmk e (by omega)).2; have := hmc6; omega) _) F_X2_addMark q491 q492 q493 (hL (4, b, e, 0) ⟨hb2, by omega, rfl⟩) rfl rfl rfl (Nat.le_of_ble_eq_true rfl) (Nat.le_of_ble_eq_true rfl) ⟨Nat.le_of_eq (Nat.zero_add _), Nat.le_of_eq (Nat.zero_add _)⟩ hl.1 (Nat.le_of_ble_eq_true rfl) dX0_setMark_31 rfl) (fun u H locs hP h => ?_)
  have m4 : ∀ k, k ∈ Ks → k.1 ≠ 8 → u.1 k = ad k := by obtain ⟨_, _, _, _, _, hN⟩ := hP; exact hN.2.2.2
  have m4e := m4 (4, b, e, 0) (hL _ ⟨hb2, by omega, rfl⟩) (by exact Nat.ne_of_beq_eq_false rfl)
  have m1b := m4 (1, b, 0, 0) (hL _ ⟨hb2, rfl, rfl⟩) (by exact Nat.ne_of_beq_eq_false rfl)
  obtain ⟨gm1, v7, hgo, hgn, hGM1, hst1, hL1, hW1, ha1⟩ := hP
  obtain ⟨ad1, Ks1, st1⟩ := u
  have h := h.congr hst1
  have m4e : ad1 (4, b, e, 0) = ad (4, b, e, 0) := m4e
  have m1b : ad1 (1, b, 0, 0) = ad (1, b, 0, 0) := m1b
  rw [← m4e, ← m1b] at hl
  obtain ⟨I9, hI9⟩ : ∃ z : Mem, z = sset (addM (nxtM I b d) b e d (mcs e) ((nxtM I b d) (1, b, 0, 0) 0)) (7, b, e, 0) v7 := ⟨_, rfl⟩
  have h : Sx D (wA ad Ks s.heap.size) ad1 Ks1 (lay tc ad1 gm1 dz I9) s H locs := h.eq (congrArg (lay tc ad1 gm1 dz) hI9.symm)
  have hr9 : I9 (10, b, e, d) = I (10, b, e, d) := by rw [hI9, sset_ne _ _ (nek (by decide)), addM, sset_ne _ _ (nek (by decide)), markM_see (by exact Nat.ne_of_beq_eq_false rfl) (by exact Nat.ne_of_beq_eq_false rfl)]; exact sset_ne _ _ (nek (by decide))
  have hL0 := hL
  have hG0 := hG
  refine lv_aload_n hx hb dX0_setMark_34 rfl (lv_at hl 0 rfl) ?_
  refine gf_Entry_copies X h (hL1 (4, b, e, 0) ⟨by omega, by omega, rfl⟩) q134 dX0_setMark_35 ?_
  refine lv_iload_n hx hb dX0_setMark_38 rfl (lv_at hl 2 rfl) ?_
  refine ra_copies X h (hL1 (6, b, e, 0) ⟨by omega, by omega, rfl⟩) (j := d) (by omega) dX0_setMark_39 ?_
  refine x_doneI X h (x_runV X h (k := (9, b, e, d)) (m_X1_countAllValues I9 b e d hL1 (by omega) (by omega) (by omega)  _) F_X1_countAllValues q582 q316 q317 (hL1 (9, b, e, d) ⟨by omega, by omega, by omega⟩) rfl rfl rfl (Nat.le_of_ble_eq_true rfl) (Nat.le_of_ble_eq_true rfl) ⟨Nat.le_of_eq (Nat.zero_add _), Nat.le_of_eq (Nat.zero_add _)⟩ hl.1 (Nat.le_of_ble_eq_true rfl) dX0_setMark_40 rfl) (fun H locs h => ?_)
  rw [hr9]
  rw [show nxtM I b d (1, b, 0, 0) = I (1, b, 0, 0) from sset_ne _ _ (nek (by decide))] at hI9
  exact g_iret X h hr rfl ⟨rfl, ⟨gm1, v7, hgo, hgn, hGM1, fun k _ => congrFun (congrArg (lay tc ad1 gm1 dz) hI9) k, hL1, hW1, ha1⟩⟩ (Nat.le_of_eq (Nat.zero_add _)) (Nat.le_of_eq (Nat.zero_add _)) dX0_setMark_43
