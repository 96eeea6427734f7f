set_option maxHeartbeats 4000000 in
set_option maxRecDepth 100000 in
theorem m_X6_delete {l : Launch} {D : va_G} {tc : TC} {dz : Nat} {ad : KN → Nat} {Ks : List KN} {gm : GM} (I : Mem) (hL : LV gm Ks) (hW : LW gm Ks) (hG2 : GM2 gm) (n : Nat) (mcs : Nat → Nat) (hB : BK gm I 0 n mcs) (hmc6 : ∀ e, e < n → mcs e < 600) (z : Nat) (hz5 : I (20, 0, 0, 0) 0 = nI z) (hz6 : z < 512) (d e : Nat) (hd : d < 6) (he : e < n) (hk : nz (I (9, 0, e, d) 0) = true) (how : I (4, 0, e, 0) 0 = nI (d / 2)) (hs : sto I 0 e d (mcs e) = 1) : GI l yX6_delete cX6_delete 4 (Option.some ClassFile.FieldType.int) 10 (if mcs e < (gm 0 e).1 then 0 else 5) (if mcs e < (gm 0 e).1 then 0 else 2 * (gm 0 e).1 + 43) D tc dz ad Ks (lay tc ad gm dz I) [.ref (ad (0, 0, 0, 0)), .int (nI d), .int (nI e)] (fun r u => r = nI (cvA (I (10, 0, e, d))) ∧ GrP tc dz gm 0 e (max (gm 0 e).1 (mcs e + 1)) (addM (nxtM (jwM I z (nI 2) (nI d) (nI e) (nI 0) (nI 0)) 0 d) 0 e d (mcs e) (I (1, 0, 0, 0) 0)) ad Ks u) := by
  intro sz
  have hG := hG2.ok; obtain ⟨hn, hn10, hmk⟩ := id hB
  refine x_ofW (by decide +kernel) (Nat.le_of_ble_eq_true rfl) (fun pp ee s mm bel meth cd ls X hr hin hz h hl => ?_)
  subst hz
  obtain ⟨hx, hb, hmaxL, hown, hts⟩ := id X.1
  have hl : lv_has ls 4 [(0, .ref (ad (0, 0, 0, 0))), (1, .int (nI d)), (2, .int (nI e))] := hl
  refine lv_aload_n hx hb dX6_delete_0 rfl (lv_at hl 0 rfl) ?_
  refine gf_BraidBook_books X h (hL (0, 0, 0, 0) ⟨rfl, rfl, rfl⟩) q188 dX6_delete_1 ?_
  refine lv_iload_n hx hb dX6_delete_4 rfl (lv_at hl 1 rfl) ?_
  refine lv_iload_n hx hb dX6_delete_5 rfl (lv_at hl 2 rfl) ?_
  refine x_doneA X h (x_runS X h (m_X6_knownEntry I 0 hL hG (by omega) n mcs hB d e (by omega) (by omega) hk _) F_X6_knownEntry q426 q427 rfl (Nat.le_of_ble_eq_true rfl) (Nat.le_of_ble_eq_true rfl) ⟨Nat.zero_le _, Nat.zero_le _⟩ hl.1 (Nat.le_of_ble_eq_true rfl) dX6_delete_6 rfl) (fun H locs h => ?_)
  refine lv_astore_n (lv' := [(3, .ref (ad (4, 0, e, 0))), (0, .ref (ad (0, 0, 0, 0))), (1, .int (nI d)), (2, .int (nI e))]) hx hb dX6_delete_9 rfl hl (by decide) rfl (fun ls hl => ?_)
  refine lv_aload_n hx hb dX6_delete_10 rfl (lv_at hl 0 rfl) ?_
  refine lv_iload_n hx hb dX6_delete_11 rfl (lv_at hl 2 rfl) ?_
  refine x_doneV X h (x_runS X h (m_X6_requireOwner I 0 e d hL (by omega) (by omega) (by omega) how _) F_X6_requireOwner q480 q481 rfl (Nat.le_of_ble_eq_true rfl) (Nat.le_of_ble_eq_true rfl) ⟨Nat.zero_le _, Nat.zero_le _⟩ hl.1 (Nat.le_of_ble_eq_true rfl) dX6_delete_12 rfl) (fun H locs h => ?_)
  refine lv_aload_n hx hb dX6_delete_15 rfl (lv_at hl 0 rfl) ?_
  refine lv_iload_n hx hb dX6_delete_16 rfl (lv_at hl 2 rfl) ?_
  refine x_doneI X h (x_runV X h (k := (4, 0, e, 0)) (m_X2_stateOn I 0 e hL hG (by omega) (by omega) d (by omega) (mcs e) (hmk e (by omega)).1 (hmk e (by omega)).2 _) F_X2_stateOn q485 q281 q282 (hL (4, 0, e, 0) ⟨by omega, by omega, rfl⟩) rfl rfl rfl (Nat.le_of_ble_eq_true rfl) (Nat.le_of_ble_eq_true rfl) ⟨Nat.zero_le _, Nat.zero_le _⟩ hl.1 (Nat.le_of_ble_eq_true rfl) dX6_delete_17 rfl) (fun H locs h => ?_)
  refine lv_iconst (v := nI 1) hx hb dX6_delete_20 (by decide) ?_
  refine n_icmp_eq (tgt := 34) hx hb (by omega) (by omega) dX6_delete_21 (by decide) (fun c_21 => ?_) (fun c_21 => ?_)
  · skip
    refine lv_aload_n hx hb dX6_delete_34 rfl (lv_at hl 1 rfl) ?_
    refine x_doneV X h (x_runV X h (k := (0, 0, 0, 0)) (m_X6_requireRoomInJournal I hL z hz5 hz6 _) F_X6_requireRoomInJournal q402 q404 q1 (hL (0, 0, 0, 0) ⟨rfl, rfl, rfl⟩) rfl rfl rfl (Nat.le_of_ble_eq_true rfl) (Nat.le_of_ble_eq_true rfl) ⟨Nat.zero_le _, Nat.zero_le _⟩ hl.1 (Nat.le_of_ble_eq_true rfl) dX6_delete_35 rfl) (fun H locs h => ?_)
    refine lv_aload_n hx hb dX6_delete_38 rfl (lv_at hl 1 rfl) ?_
    refine gf_BraidBook_journal X h (hL (0, 0, 0, 0) ⟨rfl, rfl, rfl⟩) q190 dX6_delete_39 ?_
    refine lv_iconst (v := nI 2) hx hb dX6_delete_42 (by decide) ?_
    refine lv_iload_n hx hb dX6_delete_43 rfl (lv_at hl 2 rfl) ?_
    refine lv_iload_n hx hb dX6_delete_44 rfl (lv_at hl 3 rfl) ?_
    refine lv_iconst (v := nI 0) hx hb dX6_delete_45 (by decide) ?_
    refine lv_iconst (v := nI 0) hx hb dX6_delete_46 (by decide) ?_
    refine x_doneV X h (x_runV X h (k := (20, 0, 0, 0)) (m_X3_write I hL z hz5 hz6 (nI 2) (nI d) (nI e) (nI 0) (nI 0) _) F_X3_write q411 q412 q413 (hL (20, 0, 0, 0) ⟨by decide, rfl, rfl, rfl⟩) rfl rfl rfl (Nat.le_of_ble_eq_true rfl) (Nat.le_of_ble_eq_true rfl) ⟨Nat.zero_le _, Nat.zero_le _⟩ hl.1 (Nat.le_of_ble_eq_true rfl) dX6_delete_47 rfl) (fun H locs h => ?_)
    refine lv_aload_n hx hb dX6_delete_50 rfl (lv_at hl 1 rfl) ?_
    refine gf_BraidBook_books X h (hL (0, 0, 0, 0) ⟨rfl, rfl, rfl⟩) q188 dX6_delete_51 ?_
    refine lv_iload_n hx hb dX6_delete_54 rfl (lv_at hl 2 rfl) ?_
    refine lv_iload_n hx hb dX6_delete_55 rfl (lv_at hl 3 rfl) ?_
    refine g_doneI X h (x_runV X h (k := (1, 0, 0, 0)) (m_X0_setMark (jwM I z (nI 2) (nI d) (nI e) (nI 0) (nI 0)) 0 hL hW hG2 (by decide) n mcs (jw_BK hB) hmc6 d e hd he _) F_X0_setMark q487 q488 q489 (hL (1, 0, 0, 0) ⟨by decide, rfl, rfl⟩) rfl rfl rfl (Nat.le_of_ble_eq_true rfl) (Nat.le_of_ble_eq_true rfl) ⟨Nat.le_of_eq (Nat.zero_add _), Nat.le_of_eq (Nat.zero_add _)⟩ hl.1 (Nat.le_of_ble_eq_true rfl) dX6_delete_56 rfl) (fun r u H locs hP h => ?_)
    obtain ⟨rfl, hP⟩ := hP
    rw [jw_see (by exact Nat.ne_of_beq_eq_false rfl) (by exact Nat.ne_of_beq_eq_false rfl) (by exact Nat.ne_of_beq_eq_false rfl) (by exact Nat.ne_of_beq_eq_false rfl) (by exact Nat.ne_of_beq_eq_false rfl) (by exact Nat.ne_of_beq_eq_false rfl)] at hP
    have hJ10 : (jwM I z (nI 2) (nI d) (nI e) (nI 0) (nI 0)) (10, 0, e, d) = I (10, 0, e, d) := jw_see (by exact Nat.ne_of_beq_eq_false rfl) (by exact Nat.ne_of_beq_eq_false rfl) (by exact Nat.ne_of_beq_eq_false rfl) (by exact Nat.ne_of_beq_eq_false rfl) (by exact Nat.ne_of_beq_eq_false rfl) (by exact Nat.ne_of_beq_eq_false rfl)
    exact g_iret X h hr rfl ⟨by rw [hJ10], hP⟩ (Nat.le_of_eq (Nat.zero_add _)) (Nat.le_of_eq (Nat.zero_add _)) dX6_delete_59
  · skip
    exact absurd hs c_21
