set_option maxHeartbeats 4000000 in
set_option maxRecDepth 100000 in
theorem m_X1_clear {l : Launch} {D : va_G} {tc : TC} {dz : Nat} {ad : KN → Nat} {Ks : List KN} {gm : GM} (I : Mem) (b e d : Nat) (hL : LV gm Ks) (hb2 : b < 2) (he : e < 10) (hd : d < 6) : MV l yX1_clear cX1_clear 1 2 D tc dz ad Ks (lay tc ad gm dz I) [.ref (ad (9, b, e, d))] (lay tc ad gm dz (clearM I b e d)) := by
  intro sz
  refine x_ofW (by decide +kernel) (Nat.le_of_ble_eq_true rfl) (fun pp ee s mm bel meth cd ls X hr hin hz h hl => ?_)
  subst hz
  obtain ⟨hx, hb, hmaxL, hown, hts⟩ := id X.1
  have hl : lv_has ls 1 [(0, .ref (ad (9, b, e, d)))] := hl
  refine lv_aload_n hx hb dX1_clear_0 rfl (lv_at hl 0 rfl) ?_
  refine lv_iconst (v := nI 0) hx hb dX1_clear_1 (by decide) ?_
  refine pf_Copy_known X h (hL (9, b, e, d) ⟨by omega, by omega, by omega⟩) q97 (by decide) (by decide) dX1_clear_2 (fun H locs h => ?_)
  refine lv_aload_n hx hb dX1_clear_5 rfl (lv_at hl 0 rfl) ?_
  refine lv_iconst (v := nI 0) hx hb dX1_clear_6 (by decide) ?_
  refine pf_Copy_noted X h (hL (9, b, e, d) ⟨by omega, by omega, by omega⟩) q101 (by decide) (by decide) dX1_clear_7 (fun H locs h => ?_)
  refine lv_aload_n hx hb dX1_clear_10 rfl (lv_at hl 0 rfl) ?_
  refine lv_iconst (v := nI 0) hx hb dX1_clear_11 (by decide) ?_
  refine x_doneV X h (x_runV X h (k := (9, b, e, d)) (m_X1_keepFields (sset (sset I (9, b, e, d) (upd (I (9, b, e, d)) 0 (nI 0))) (9, b, e, d) (upd ((sset I (9, b, e, d) (upd (I (9, b, e, d)) 0 (nI 0))) (9, b, e, d)) 1 (nI 0))) b e d hL (by omega) (by omega) (by omega) (nI 0) _) F_X1_keepFields q704 q599 q600 (hL (9, b, e, d) ⟨by omega, by omega, by omega⟩) rfl rfl rfl (by decide) (by decide) ⟨Nat.le_refl _, Nat.le_refl _⟩ hl.1 (Nat.le_of_ble_eq_true rfl) dX1_clear_12 rfl) (fun H locs h => ?_)
  refine lv_aload_n hx hb dX1_clear_15 rfl (lv_at hl 0 rfl) ?_
  refine gf_Copy_note X h (hL (9, b, e, d) ⟨by omega, by omega, by omega⟩) q112 dX1_clear_16 ?_
  refine x_doneV X h (x_runV X h (k := (14, b, e, d)) (m_X5_clear (keepM (nI 0) (sset (sset I (9, b, e, d) (upd (I (9, b, e, d)) 0 (nI 0))) (9, b, e, d) (upd ((sset I (9, b, e, d) (upd (I (9, b, e, d)) 0 (nI 0))) (9, b, e, d)) 1 (nI 0))) b e d) (14, b, e, d) (15, b, e, d) (fun _ => rfl) (fun _ => rfl) (hL (14, b, e, d) ⟨by omega, by omega, by omega⟩) (hL (15, b, e, d) ⟨by omega, by omega, by omega⟩) _) F_X5_clear q705 q574 q575 (hL (14, b, e, d) ⟨by omega, by omega, by omega⟩) rfl rfl rfl (by decide) (by decide) ⟨Nat.le_refl _, Nat.le_refl _⟩ hl.1 (Nat.le_of_ble_eq_true rfl) dX1_clear_19 rfl) (fun H locs h => ?_)
  refine x_vret X h hr (fun k _ => congrFun (congrArg (lay tc ad gm dz) ?_) k) dX1_clear_22
  · show _ = clearM I b e d
    rw [show nI 0 = (0 : Int32) from rfl]
    simp only [keepM, clearM, keepR_0, sset_sset, sset_eq, sset_ne _ _ ((nek (by decide)) : ((10, b, e, d) : KN) ≠ (9, b, e, d)), sset_ne _ _ ((nek (by decide)) : ((11, b, e, d) : KN) ≠ (9, b, e, d)), sset_ne _ _ ((nek (by decide)) : ((13, b, e, d) : KN) ≠ (9, b, e, d)), sset_ne _ _ ((nek (by decide)) : ((11, b, e, d) : KN) ≠ (10, b, e, d)), sset_ne _ _ ((nek (by decide)) : ((13, b, e, d) : KN) ≠ (10, b, e, d)), sset_ne _ _ ((nek (by decide)) : ((13, b, e, d) : KN) ≠ (11, b, e, d))]

set_option maxHeartbeats 4000000 in
set_option maxRecDepth 100000 in
theorem m_X1_braidCell {l : Launch} {D : va_G} {tc : TC} {dz : Nat} {ad : KN → Nat} {Ks : List KN} {gm : GM} (I : Mem) (b e d : Nat) (hL : LV gm Ks) (hb2 : b < 2) (he : e < 10) (hd : d < 6) (d2 : Nat) (hd2 : d2 < 6) (hne : d ≠ d2) (c : Nat) (hc : c < 24) : MI l yX1_braidCell cX1_braidCell 5 (Option.some ClassFile.FieldType.int) 0 D tc dz ad Ks (lay tc ad gm dz I) [.ref (ad (9, b, e, d)), .ref (ad (9, b, e, d2)), .int (nI c)] (gR (I (10, b, e, d)) (I (10, b, e, d2)) (I (13, b, e, d)) (I (13, b, e, d2)) c) (lay tc ad gm dz (cellM I b e d d2 c)) := by
  intro sz
  refine x_ofW (by decide +kernel) (Nat.le_of_ble_eq_true rfl) (fun pp ee s mm bel meth cd ls X hr hin hz h hl => ?_)
  subst hz
  obtain ⟨hx, hb, hmaxL, hown, hts⟩ := id X.1
  have hl : lv_has ls 5 [(0, .ref (ad (9, b, e, d))), (1, .ref (ad (9, b, e, d2))), (2, .int (nI c))] := hl
  refine lv_aload_n hx hb dX1_braidCell_0 rfl (lv_at hl 0 rfl) ?_
  refine gf_Copy_acts X h (hL (9, b, e, d) ⟨by omega, by omega, by omega⟩) q103 dX1_braidCell_1 ?_
  refine lv_iload_n hx hb dX1_braidCell_4 rfl (lv_at hl 2 rfl) ?_
  refine y_ald X h (fun _ => rfl) (by decide) (hL (10, b, e, d) ⟨by omega, by omega, by omega⟩) (by omega) (v := I (10, b, e, d) c) rfl dX1_braidCell_5 ?_
  refine lv_aload_n hx hb dX1_braidCell_6 rfl (lv_at hl 1 rfl) ?_
  refine gf_Copy_acts X h (hL (9, b, e, d2) ⟨by omega, by omega, by omega⟩) q103 dX1_braidCell_7 ?_
  refine lv_iload_n hx hb dX1_braidCell_10 rfl (lv_at hl 2 rfl) ?_
  refine y_ald X h (fun _ => rfl) (by decide) (hL (10, b, e, d2) ⟨by omega, by omega, by omega⟩) (by omega) (v := I (10, b, e, d2) c) rfl dX1_braidCell_11 ?_
  refine lv_icmp_ne (tgt := 17) hx hb dX1_braidCell_12 (by decide) (fun c_12 => ?_) (fun c_12 => ?_)
  · skip
    refine lv_iconst (v := nI 0) hx hb dX1_braidCell_17 (by decide) ?_
    refine lv_istore_n (lv' := [(3, .int (nI 0)), (0, .ref (ad (9, b, e, d))), (1, .ref (ad (9, b, e, d2))), (2, .int (nI c))]) hx hb dX1_braidCell_18 rfl hl (by decide) rfl (fun ls hl => ?_)
    refine lv_iconst (v := nI 0) hx hb dX1_braidCell_19 (by decide) ?_
    refine lv_istore (lv' := [(4, .int (nI 0)), (3, .int (nI 0)), (0, .ref (ad (9, b, e, d))), (1, .ref (ad (9, b, e, d2))), (2, .int (nI c))]) hx hb dX1_braidCell_20 hl (by decide) rfl (fun ls hl => ?_)
    refine lv_aload_n hx hb dX1_braidCell_22 rfl (lv_at hl 2 rfl) ?_
    refine gf_Copy_acts X h (hL (9, b, e, d) ⟨by omega, by omega, by omega⟩) q103 dX1_braidCell_23 ?_
    refine lv_iload_n hx hb dX1_braidCell_26 rfl (lv_at hl 4 rfl) ?_
    refine y_ald X h (fun _ => rfl) (by decide) (hL (10, b, e, d) ⟨by omega, by omega, by omega⟩) (by omega) (v := I (10, b, e, d) c) rfl dX1_braidCell_27 ?_
    refine lv_aload_n hx hb dX1_braidCell_28 rfl (lv_at hl 3 rfl) ?_
    refine gf_Copy_seen X h (hL (9, b, e, d2) ⟨by omega, by omega, by omega⟩) q108 dX1_braidCell_29 ?_
    refine gf_Numbers_numbers X h (fun _ => rfl) (hL (12, b, e, d2) ⟨by omega, by omega, by omega⟩) q92 dX1_braidCell_32 ?_
    refine lv_iload_n hx hb dX1_braidCell_35 rfl (lv_at hl 4 rfl) ?_
    refine y_ald X h (fun _ => rfl) (by decide) (hL (13, b, e, d2) ⟨by omega, by omega, by omega⟩) (by omega) (v := I (13, b, e, d2) c) rfl dX1_braidCell_36 ?_
    refine lv_icmp_le (tgt := 58) hx hb dX1_braidCell_37 (by decide) (fun c_37 => ?_) (fun c_37 => ?_)
    · skip
      refine lv_aload_n hx hb dX1_braidCell_58 rfl (lv_at hl 3 rfl) ?_
      refine gf_Copy_acts X h (hL (9, b, e, d2) ⟨by omega, by omega, by omega⟩) q103 dX1_braidCell_59 ?_
      refine lv_iload_n hx hb dX1_braidCell_62 rfl (lv_at hl 4 rfl) ?_
      refine y_ald X h (fun _ => rfl) (by decide) (hL (10, b, e, d2) ⟨by omega, by omega, by omega⟩) (by omega) (v := I (10, b, e, d2) c) rfl dX1_braidCell_63 ?_
      refine lv_aload_n hx hb dX1_braidCell_64 rfl (lv_at hl 2 rfl) ?_
      refine gf_Copy_seen X h (hL (9, b, e, d) ⟨by omega, by omega, by omega⟩) q108 dX1_braidCell_65 ?_
      refine gf_Numbers_numbers X h (fun _ => rfl) (hL (12, b, e, d) ⟨by omega, by omega, by omega⟩) q92 dX1_braidCell_68 ?_
      refine lv_iload_n hx hb dX1_braidCell_71 rfl (lv_at hl 4 rfl) ?_
      refine y_ald X h (fun _ => rfl) (by decide) (hL (13, b, e, d) ⟨by omega, by omega, by omega⟩) (by omega) (v := I (13, b, e, d) c) rfl dX1_braidCell_72 ?_
      refine lv_icmp_le (tgt := 91) hx hb dX1_braidCell_73 (by decide) (fun c_73 => ?_) (fun c_73 => ?_)
      · skip
        refine lv_aload_n hx hb dX1_braidCell_91 rfl (lv_at hl 2 rfl) ?_
        refine gf_Copy_acts X h (hL (9, b, e, d) ⟨by omega, by omega, by omega⟩) q103 dX1_braidCell_92 ?_
        refine lv_iload_n hx hb dX1_braidCell_95 rfl (lv_at hl 4 rfl) ?_
        refine lv_iload_n hx hb dX1_braidCell_96 rfl (lv_at hl 1 rfl) ?_
        refine y_ast X h (fun _ => rfl) (by decide) (hL (10, b, e, d) ⟨by omega, by omega, by omega⟩) (by omega) dX1_braidCell_97 (fun H locs h => ?_)
        refine lv_aload_n hx hb dX1_braidCell_98 rfl (lv_at hl 2 rfl) ?_
        refine gf_Copy_told X h (hL (9, b, e, d) ⟨by omega, by omega, by omega⟩) q106 dX1_braidCell_99 ?_
        refine lv_iload_n hx hb dX1_braidCell_102 rfl (lv_at hl 4 rfl) ?_
        refine lv_iload hx hb dX1_braidCell_103 (lv_at hl 0 rfl) ?_
        refine y_ast X h (fun _ => rfl) (by decide) (hL (11, b, e, d) ⟨by omega, by omega, by omega⟩) (by omega) dX1_braidCell_105 (fun H locs h => ?_)
        refine lv_aload_n hx hb dX1_braidCell_106 rfl (lv_at hl 3 rfl) ?_
        refine gf_Copy_acts X h (hL (9, b, e, d2) ⟨by omega, by omega, by omega⟩) q103 dX1_braidCell_107 ?_
        refine lv_iload_n hx hb dX1_braidCell_110 rfl (lv_at hl 4 rfl) ?_
        refine lv_iload_n hx hb dX1_braidCell_111 rfl (lv_at hl 1 rfl) ?_
        refine y_ast X h (fun _ => rfl) (by decide) (hL (10, b, e, d2) ⟨by omega, by omega, by omega⟩) (by omega) dX1_braidCell_112 (fun H locs h => ?_)
        refine lv_aload_n hx hb dX1_braidCell_113 rfl (lv_at hl 3 rfl) ?_
        refine gf_Copy_told X h (hL (9, b, e, d2) ⟨by omega, by omega, by omega⟩) q106 dX1_braidCell_114 ?_
        refine lv_iload_n hx hb dX1_braidCell_117 rfl (lv_at hl 4 rfl) ?_
        refine lv_iload hx hb dX1_braidCell_118 (lv_at hl 0 rfl) ?_
        refine y_ast X h (fun _ => rfl) (by decide) (hL (11, b, e, d2) ⟨by omega, by omega, by omega⟩) (by omega) dX1_braidCell_120 (fun H locs h => ?_)
        refine lv_iload_n hx hb dX1_braidCell_121 rfl (lv_at hl 1 rfl) ?_
        refine lv_if_ne (tgt := 129) hx hb dX1_braidCell_122 (by decide) (fun c => absurd c (by decide)) (fun _ => ?_)
        refine lv_iconst (v := nI 0) hx hb dX1_braidCell_125 (by decide) ?_
        refine lv_goto (tgt := 130) hx hb dX1_braidCell_126 (by decide) ?_
        refine x_iret X h hr rfl ?_ (fun k _ => congrFun (congrArg (lay tc ad gm dz) ?_) k) dX1_braidCell_130
        · simp only [gR, bR, bX, ↓reduceIte, c_12, c_37, c_73]
          first | done | rfl | (rw [if_pos c_122]; rfl) | (rw [if_neg c_122]; rfl)
        · simp only [cellM, gA, gB, gT, gU, bX, ↓reduceIte, sset_ne _ _ ((nek (by decide)) : ((10, b, e, d) : KN) ≠ (11, b, e, d)), sset_ne _ _ ((ne4 hne) : ((10, b, e, d) : KN) ≠ (10, b, e, d2)), sset_ne _ _ ((nek (by decide)) : ((10, b, e, d) : KN) ≠ (11, b, e, d2)), sset_ne _ _ ((nek (by decide)) : ((11, b, e, d) : KN) ≠ (10, b, e, d)), sset_ne _ _ ((nek (by decide)) : ((11, b, e, d) : KN) ≠ (10, b, e, d2)), sset_ne _ _ ((ne4 hne) : ((11, b, e, d) : KN) ≠ (11, b, e, d2)), sset_ne _ _ ((ne4 (Ne.symm hne)) : ((10, b, e, d2) : KN) ≠ (10, b, e, d)), sset_ne _ _ ((nek (by decide)) : ((10, b, e, d2) : KN) ≠ (11, b, e, d)), sset_ne _ _ ((nek (by decide)) : ((10, b, e, d2) : KN) ≠ (11, b, e, d2)), sset_ne _ _ ((nek (by decide)) : ((11, b, e, d2) : KN) ≠ (10, b, e, d)), sset_ne _ _ ((ne4 (Ne.symm hne)) : ((11, b, e, d2) : KN) ≠ (11, b, e, d)), sset_ne _ _ ((nek (by decide)) : ((11, b, e, d2) : KN) ≠ (10, b, e, d2)), sset_ne _ _ ((nek (by decide)) : ((13, b, e, d) : KN) ≠ (10, b, e, d)), sset_ne _ _ ((nek (by decide)) : ((13, b, e, d) : KN) ≠ (11, b, e, d)), sset_ne _ _ ((nek (by decide)) : ((13, b, e, d) : KN) ≠ (10, b, e, d2)), sset_ne _ _ ((nek (by decide)) : ((13, b, e, d) : KN) ≠ (11, b, e, d2)), sset_ne _ _ ((nek (by decide)) : ((13, b, e, d2) : KN) ≠ (10, b, e, d)), sset_ne _ _ ((nek (by decide)) : ((13, b, e, d2) : KN) ≠ (11, b, e, d)), sset_ne _ _ ((nek (by decide)) : ((13, b, e, d2) : KN) ≠ (10, b, e, d2)), sset_ne _ _ ((nek (by decide)) : ((13, b, e, d2) : KN) ≠ (11, b, e, d2)), c_12, c_37, c_73] <;> rfl
      · skip
        refine lv_aload_n hx hb dX1_braidCell_76 rfl (lv_at hl 3 rfl) ?_
        refine gf_Copy_acts X h (hL (9, b, e, d2) ⟨by omega, by omega, by omega⟩) q103 dX1_braidCell_77 ?_
        refine lv_iload_n hx hb dX1_braidCell_80 rfl (lv_at hl 4 rfl) ?_
        refine y_ald X h (fun _ => rfl) (by decide) (hL (10, b, e, d2) ⟨by omega, by omega, by omega⟩) (by omega) (v := I (10, b, e, d2) c) rfl dX1_braidCell_81 ?_
        refine lv_istore_n (lv' := [(3, .int (I (10, b, e, d2) c)), (4, .int (nI 0)), (0, .ref (ad (9, b, e, d))), (1, .ref (ad (9, b, e, d2))), (2, .int (nI c))]) hx hb dX1_braidCell_82 rfl hl (by decide) rfl (fun ls hl => ?_)
        refine lv_aload_n hx hb dX1_braidCell_83 rfl (lv_at hl 3 rfl) ?_
        refine gf_Copy_told X h (hL (9, b, e, d2) ⟨by omega, by omega, by omega⟩) q106 dX1_braidCell_84 ?_
        refine lv_iload_n hx hb dX1_braidCell_87 rfl (lv_at hl 4 rfl) ?_
        refine y_ald X h (fun _ => rfl) (by decide) (hL (11, b, e, d2) ⟨by omega, by omega, by omega⟩) (by omega) (v := I (11, b, e, d2) c) rfl dX1_braidCell_88 ?_
        refine lv_istore (lv' := [(4, .int (I (11, b, e, d2) c)), (3, .int (I (10, b, e, d2) c)), (0, .ref (ad (9, b, e, d))), (1, .ref (ad (9, b, e, d2))), (2, .int (nI c))]) hx hb dX1_braidCell_89 hl (by decide) rfl (fun ls hl => ?_)
        refine lv_aload_n hx hb dX1_braidCell_91 rfl (lv_at hl 2 rfl) ?_
        refine gf_Copy_acts X h (hL (9, b, e, d) ⟨by omega, by omega, by omega⟩) q103 dX1_braidCell_92 ?_
        refine lv_iload_n hx hb dX1_braidCell_95 rfl (lv_at hl 4 rfl) ?_
        refine lv_iload_n hx hb dX1_braidCell_96 rfl (lv_at hl 1 rfl) ?_
        refine y_ast X h (fun _ => rfl) (by decide) (hL (10, b, e, d) ⟨by omega, by omega, by omega⟩) (by omega) dX1_braidCell_97 (fun H locs h => ?_)
        refine lv_aload_n hx hb dX1_braidCell_98 rfl (lv_at hl 2 rfl) ?_
        refine gf_Copy_told X h (hL (9, b, e, d) ⟨by omega, by omega, by omega⟩) q106 dX1_braidCell_99 ?_
        refine lv_iload_n hx hb dX1_braidCell_102 rfl (lv_at hl 4 rfl) ?_
        refine lv_iload hx hb dX1_braidCell_103 (lv_at hl 0 rfl) ?_
        refine y_ast X h (fun _ => rfl) (by decide) (hL (11, b, e, d) ⟨by omega, by omega, by omega⟩) (by omega) dX1_braidCell_105 (fun H locs h => ?_)
        refine lv_aload_n hx hb dX1_braidCell_106 rfl (lv_at hl 3 rfl) ?_
        refine gf_Copy_acts X h (hL (9, b, e, d2) ⟨by omega, by omega, by omega⟩) q103 dX1_braidCell_107 ?_
        refine lv_iload_n hx hb dX1_braidCell_110 rfl (lv_at hl 4 rfl) ?_
        refine lv_iload_n hx hb dX1_braidCell_111 rfl (lv_at hl 1 rfl) ?_
        refine y_ast X h (fun _ => rfl) (by decide) (hL (10, b, e, d2) ⟨by omega, by omega, by omega⟩) (by omega) dX1_braidCell_112 (fun H locs h => ?_)
        refine lv_aload_n hx hb dX1_braidCell_113 rfl (lv_at hl 3 rfl) ?_
        refine gf_Copy_told X h (hL (9, b, e, d2) ⟨by omega, by omega, by omega⟩) q106 dX1_braidCell_114 ?_
        refine lv_iload_n hx hb dX1_braidCell_117 rfl (lv_at hl 4 rfl) ?_
        refine lv_iload hx hb dX1_braidCell_118 (lv_at hl 0 rfl) ?_
        refine y_ast X h (fun _ => rfl) (by decide) (hL (11, b, e, d2) ⟨by omega, by omega, by omega⟩) (by omega) dX1_braidCell_120 (fun H locs h => ?_)
        refine lv_iload_n hx hb dX1_braidCell_121 rfl (lv_at hl 1 rfl) ?_
        refine lv_if_ne (tgt := 129) hx hb dX1_braidCell_122 (by decide) (fun c_122 => ?_) (fun c_122 => ?_)
        · skip
          refine lv_iconst (v := nI 1) hx hb dX1_braidCell_129 (by decide) ?_
          refine x_iret X h hr rfl ?_ (fun k _ => congrFun (congrArg (lay tc ad gm dz) ?_) k) dX1_braidCell_130
          · simp only [gR, bR, bX, ↓reduceIte, c_12, c_37, c_73]
            first | done | rfl | (rw [if_pos c_122]; rfl) | (rw [if_neg c_122]; rfl)
          · simp only [cellM, gA, gB, gT, gU, bX, ↓reduceIte, sset_ne _ _ ((nek (by decide)) : ((10, b, e, d) : KN) ≠ (11, b, e, d)), sset_ne _ _ ((ne4 hne) : ((10, b, e, d) : KN) ≠ (10, b, e, d2)), sset_ne _ _ ((nek (by decide)) : ((10, b, e, d) : KN) ≠ (11, b, e, d2)), sset_ne _ _ ((nek (by decide)) : ((11, b, e, d) : KN) ≠ (10, b, e, d)), sset_ne _ _ ((nek (by decide)) : ((11, b, e, d) : KN) ≠ (10, b, e, d2)), sset_ne _ _ ((ne4 hne) : ((11, b, e, d) : KN) ≠ (11, b, e, d2)), sset_ne _ _ ((ne4 (Ne.symm hne)) : ((10, b, e, d2) : KN) ≠ (10, b, e, d)), sset_ne _ _ ((nek (by decide)) : ((10, b, e, d2) : KN) ≠ (11, b, e, d)), sset_ne _ _ ((nek (by decide)) : ((10, b, e, d2) : KN) ≠ (11, b, e, d2)), sset_ne _ _ ((nek (by decide)) : ((11, b, e, d2) : KN) ≠ (10, b, e, d)), sset_ne _ _ ((ne4 (Ne.symm hne)) : ((11, b, e, d2) : KN) ≠ (11, b, e, d)), sset_ne _ _ ((nek (by decide)) : ((11, b, e, d2) : KN) ≠ (10, b, e, d2)), sset_ne _ _ ((nek (by decide)) : ((13, b, e, d) : KN) ≠ (10, b, e, d)), sset_ne _ _ ((nek (by decide)) : ((13, b, e, d) : KN) ≠ (11, b, e, d)), sset_ne _ _ ((nek (by decide)) : ((13, b, e, d) : KN) ≠ (10, b, e, d2)), sset_ne _ _ ((nek (by decide)) : ((13, b, e, d) : KN) ≠ (11, b, e, d2)), sset_ne _ _ ((nek (by decide)) : ((13, b, e, d2) : KN) ≠ (10, b, e, d)), sset_ne _ _ ((nek (by decide)) : ((13, b, e, d2) : KN) ≠ (11, b, e, d)), sset_ne _ _ ((nek (by decide)) : ((13, b, e, d2) : KN) ≠ (10, b, e, d2)), sset_ne _ _ ((nek (by decide)) : ((13, b, e, d2) : KN) ≠ (11, b, e, d2)), c_12, c_37, c_73] <;> rfl
        · skip
          refine lv_iconst (v := nI 0) hx hb dX1_braidCell_125 (by decide) ?_
          refine lv_goto (tgt := 130) hx hb dX1_braidCell_126 (by decide) ?_
          refine x_iret X h hr rfl ?_ (fun k _ => congrFun (congrArg (lay tc ad gm dz) ?_) k) dX1_braidCell_130
          · simp only [gR, bR, bX, ↓reduceIte, c_12, c_37, c_73]
            first | done | rfl | (rw [if_pos c_122]; rfl) | (rw [if_neg c_122]; rfl)
          · simp only [cellM, gA, gB, gT, gU, bX, ↓reduceIte, sset_ne _ _ ((nek (by decide)) : ((10, b, e, d) : KN) ≠ (11, b, e, d)), sset_ne _ _ ((ne4 hne) : ((10, b, e, d) : KN) ≠ (10, b, e, d2)), sset_ne _ _ ((nek (by decide)) : ((10, b, e, d) : KN) ≠ (11, b, e, d2)), sset_ne _ _ ((nek (by decide)) : ((11, b, e, d) : KN) ≠ (10, b, e, d)), sset_ne _ _ ((nek (by decide)) : ((11, b, e, d) : KN) ≠ (10, b, e, d2)), sset_ne _ _ ((ne4 hne) : ((11, b, e, d) : KN) ≠ (11, b, e, d2)), sset_ne _ _ ((ne4 (Ne.symm hne)) : ((10, b, e, d2) : KN) ≠ (10, b, e, d)), sset_ne _ _ ((nek (by decide)) : ((10, b, e, d2) : KN) ≠ (11, b, e, d)), sset_ne _ _ ((nek (by decide)) : ((10, b, e, d2) : KN) ≠ (11, b, e, d2)), sset_ne _ _ ((nek (by decide)) : ((11, b, e, d2) : KN) ≠ (10, b, e, d)), sset_ne _ _ ((ne4 (Ne.symm hne)) : ((11, b, e, d2) : KN) ≠ (11, b, e, d)), sset_ne _ _ ((nek (by decide)) : ((11, b, e, d2) : KN) ≠ (10, b, e, d2)), sset_ne _ _ ((nek (by decide)) : ((13, b, e, d) : KN) ≠ (10, b, e, d)), sset_ne _ _ ((nek (by decide)) : ((13, b, e, d) : KN) ≠ (11, b, e, d)), sset_ne _ _ ((nek (by decide)) : ((13, b, e, d) : KN) ≠ (10, b, e, d2)), sset_ne _ _ ((nek (by decide)) : ((13, b, e, d) : KN) ≠ (11, b, e, d2)), sset_ne _ _ ((nek (by decide)) : ((13, b, e, d2) : KN) ≠ (10, b, e, d)), sset_ne _ _ ((nek (by decide)) : ((13, b, e, d2) : KN) ≠ (11, b, e, d)), sset_ne _ _ ((nek (by decide)) : ((13, b, e, d2) : KN) ≠ (10, b, e, d2)), sset_ne _ _ ((nek (by decide)) : ((13, b, e, d2) : KN) ≠ (11, b, e, d2)), c_12, c_37, c_73] <;> rfl
    · skip
      refine lv_aload_n hx hb dX1_braidCell_40 rfl (lv_at hl 2 rfl) ?_
      refine gf_Copy_acts X h (hL (9, b, e, d) ⟨by omega, by omega, by omega⟩) q103 dX1_braidCell_41 ?_
      refine lv_iload_n hx hb dX1_braidCell_44 rfl (lv_at hl 4 rfl) ?_
      refine y_ald X h (fun _ => rfl) (by decide) (hL (10, b, e, d) ⟨by omega, by omega, by omega⟩) (by omega) (v := I (10, b, e, d) c) rfl dX1_braidCell_45 ?_
      refine lv_istore_n (lv' := [(3, .int (I (10, b, e, d) c)), (4, .int (nI 0)), (0, .ref (ad (9, b, e, d))), (1, .ref (ad (9, b, e, d2))), (2, .int (nI c))]) hx hb dX1_braidCell_46 rfl hl (by decide) rfl (fun ls hl => ?_)
      refine lv_aload_n hx hb dX1_braidCell_47 rfl (lv_at hl 2 rfl) ?_
      refine gf_Copy_told X h (hL (9, b, e, d) ⟨by omega, by omega, by omega⟩) q106 dX1_braidCell_48 ?_
      refine lv_iload_n hx hb dX1_braidCell_51 rfl (lv_at hl 4 rfl) ?_
      refine y_ald X h (fun _ => rfl) (by decide) (hL (11, b, e, d) ⟨by omega, by omega, by omega⟩) (by omega) (v := I (11, b, e, d) c) rfl dX1_braidCell_52 ?_
      refine lv_istore (lv' := [(4, .int (I (11, b, e, d) c)), (3, .int (I (10, b, e, d) c)), (0, .ref (ad (9, b, e, d))), (1, .ref (ad (9, b, e, d2))), (2, .int (nI c))]) hx hb dX1_braidCell_53 hl (by decide) rfl (fun ls hl => ?_)
      refine lv_goto (tgt := 91) hx hb dX1_braidCell_55 (by decide) ?_
      refine lv_aload_n hx hb dX1_braidCell_91 rfl (lv_at hl 2 rfl) ?_
      refine gf_Copy_acts X h (hL (9, b, e, d) ⟨by omega, by omega, by omega⟩) q103 dX1_braidCell_92 ?_
      refine lv_iload_n hx hb dX1_braidCell_95 rfl (lv_at hl 4 rfl) ?_
      refine lv_iload_n hx hb dX1_braidCell_96 rfl (lv_at hl 1 rfl) ?_
      refine y_ast X h (fun _ => rfl) (by decide) (hL (10, b, e, d) ⟨by omega, by omega, by omega⟩) (by omega) dX1_braidCell_97 (fun H locs h => ?_)
      refine lv_aload_n hx hb dX1_braidCell_98 rfl (lv_at hl 2 rfl) ?_
      refine gf_Copy_told X h (hL (9, b, e, d) ⟨by omega, by omega, by omega⟩) q106 dX1_braidCell_99 ?_
      refine lv_iload_n hx hb dX1_braidCell_102 rfl (lv_at hl 4 rfl) ?_
      refine lv_iload hx hb dX1_braidCell_103 (lv_at hl 0 rfl) ?_
      refine y_ast X h (fun _ => rfl) (by decide) (hL (11, b, e, d) ⟨by omega, by omega, by omega⟩) (by omega) dX1_braidCell_105 (fun H locs h => ?_)
      refine lv_aload_n hx hb dX1_braidCell_106 rfl (lv_at hl 3 rfl) ?_
      refine gf_Copy_acts X h (hL (9, b, e, d2) ⟨by omega, by omega, by omega⟩) q103 dX1_braidCell_107 ?_
      refine lv_iload_n hx hb dX1_braidCell_110 rfl (lv_at hl 4 rfl) ?_
      refine lv_iload_n hx hb dX1_braidCell_111 rfl (lv_at hl 1 rfl) ?_
      refine y_ast X h (fun _ => rfl) (by decide) (hL (10, b, e, d2) ⟨by omega, by omega, by omega⟩) (by omega) dX1_braidCell_112 (fun H locs h => ?_)
      refine lv_aload_n hx hb dX1_braidCell_113 rfl (lv_at hl 3 rfl) ?_
      refine gf_Copy_told X h (hL (9, b, e, d2) ⟨by omega, by omega, by omega⟩) q106 dX1_braidCell_114 ?_
      refine lv_iload_n hx hb dX1_braidCell_117 rfl (lv_at hl 4 rfl) ?_
      refine lv_iload hx hb dX1_braidCell_118 (lv_at hl 0 rfl) ?_
      refine y_ast X h (fun _ => rfl) (by decide) (hL (11, b, e, d2) ⟨by omega, by omega, by omega⟩) (by omega) dX1_braidCell_120 (fun H locs h => ?_)
      refine lv_iload_n hx hb dX1_braidCell_121 rfl (lv_at hl 1 rfl) ?_
      refine lv_if_ne (tgt := 129) hx hb dX1_braidCell_122 (by decide) (fun c_122 => ?_) (fun c_122 => ?_)
      · skip
        refine lv_iconst (v := nI 1) hx hb dX1_braidCell_129 (by decide) ?_
        refine x_iret X h hr rfl ?_ (fun k _ => congrFun (congrArg (lay tc ad gm dz) ?_) k) dX1_braidCell_130
        · simp only [gR, bR, bX, ↓reduceIte, c_12, c_37]
          first | done | rfl | (rw [if_pos c_122]; rfl) | (rw [if_neg c_122]; rfl)
        · simp only [cellM, gA, gB, gT, gU, bX, ↓reduceIte, sset_ne _ _ ((nek (by decide)) : ((10, b, e, d) : KN) ≠ (11, b, e, d)), sset_ne _ _ ((ne4 hne) : ((10, b, e, d) : KN) ≠ (10, b, e, d2)), sset_ne _ _ ((nek (by decide)) : ((10, b, e, d) : KN) ≠ (11, b, e, d2)), sset_ne _ _ ((nek (by decide)) : ((11, b, e, d) : KN) ≠ (10, b, e, d)), sset_ne _ _ ((nek (by decide)) : ((11, b, e, d) : KN) ≠ (10, b, e, d2)), sset_ne _ _ ((ne4 hne) : ((11, b, e, d) : KN) ≠ (11, b, e, d2)), sset_ne _ _ ((ne4 (Ne.symm hne)) : ((10, b, e, d2) : KN) ≠ (10, b, e, d)), sset_ne _ _ ((nek (by decide)) : ((10, b, e, d2) : KN) ≠ (11, b, e, d)), sset_ne _ _ ((nek (by decide)) : ((10, b, e, d2) : KN) ≠ (11, b, e, d2)), sset_ne _ _ ((nek (by decide)) : ((11, b, e, d2) : KN) ≠ (10, b, e, d)), sset_ne _ _ ((ne4 (Ne.symm hne)) : ((11, b, e, d2) : KN) ≠ (11, b, e, d)), sset_ne _ _ ((nek (by decide)) : ((11, b, e, d2) : KN) ≠ (10, b, e, d2)), sset_ne _ _ ((nek (by decide)) : ((13, b, e, d) : KN) ≠ (10, b, e, d)), sset_ne _ _ ((nek (by decide)) : ((13, b, e, d) : KN) ≠ (11, b, e, d)), sset_ne _ _ ((nek (by decide)) : ((13, b, e, d) : KN) ≠ (10, b, e, d2)), sset_ne _ _ ((nek (by decide)) : ((13, b, e, d) : KN) ≠ (11, b, e, d2)), sset_ne _ _ ((nek (by decide)) : ((13, b, e, d2) : KN) ≠ (10, b, e, d)), sset_ne _ _ ((nek (by decide)) : ((13, b, e, d2) : KN) ≠ (11, b, e, d)), sset_ne _ _ ((nek (by decide)) : ((13, b, e, d2) : KN) ≠ (10, b, e, d2)), sset_ne _ _ ((nek (by decide)) : ((13, b, e, d2) : KN) ≠ (11, b, e, d2)), c_12, c_37] <;> rfl
      · skip
        refine lv_iconst (v := nI 0) hx hb dX1_braidCell_125 (by decide) ?_
        refine lv_goto (tgt := 130) hx hb dX1_braidCell_126 (by decide) ?_
        refine x_iret X h hr rfl ?_ (fun k _ => congrFun (congrArg (lay tc ad gm dz) ?_) k) dX1_braidCell_130
        · simp only [gR, bR, bX, ↓reduceIte, c_12, c_37]
          first | done | rfl | (rw [if_pos c_122]; rfl) | (rw [if_neg c_122]; rfl)
        · simp only [cellM, gA, gB, gT, gU, bX, ↓reduceIte, sset_ne _ _ ((nek (by decide)) : ((10, b, e, d) : KN) ≠ (11, b, e, d)), sset_ne _ _ ((ne4 hne) : ((10, b, e, d) : KN) ≠ (10, b, e, d2)), sset_ne _ _ ((nek (by decide)) : ((10, b, e, d) : KN) ≠ (11, b, e, d2)), sset_ne _ _ ((nek (by decide)) : ((11, b, e, d) : KN) ≠ (10, b, e, d)), sset_ne _ _ ((nek (by decide)) : ((11, b, e, d) : KN) ≠ (10, b, e, d2)), sset_ne _ _ ((ne4 hne) : ((11, b, e, d) : KN) ≠ (11, b, e, d2)), sset_ne _ _ ((ne4 (Ne.symm hne)) : ((10, b, e, d2) : KN) ≠ (10, b, e, d)), sset_ne _ _ ((nek (by decide)) : ((10, b, e, d2) : KN) ≠ (11, b, e, d)), sset_ne _ _ ((nek (by decide)) : ((10, b, e, d2) : KN) ≠ (11, b, e, d2)), sset_ne _ _ ((nek (by decide)) : ((11, b, e, d2) : KN) ≠ (10, b, e, d)), sset_ne _ _ ((ne4 (Ne.symm hne)) : ((11, b, e, d2) : KN) ≠ (11, b, e, d)), sset_ne _ _ ((nek (by decide)) : ((11, b, e, d2) : KN) ≠ (10, b, e, d2)), sset_ne _ _ ((nek (by decide)) : ((13, b, e, d) : KN) ≠ (10, b, e, d)), sset_ne _ _ ((nek (by decide)) : ((13, b, e, d) : KN) ≠ (11, b, e, d)), sset_ne _ _ ((nek (by decide)) : ((13, b, e, d) : KN) ≠ (10, b, e, d2)), sset_ne _ _ ((nek (by decide)) : ((13, b, e, d) : KN) ≠ (11, b, e, d2)), sset_ne _ _ ((nek (by decide)) : ((13, b, e, d2) : KN) ≠ (10, b, e, d)), sset_ne _ _ ((nek (by decide)) : ((13, b, e, d2) : KN) ≠ (11, b, e, d)), sset_ne _ _ ((nek (by decide)) : ((13, b, e, d2) : KN) ≠ (10, b, e, d2)), sset_ne _ _ ((nek (by decide)) : ((13, b, e, d2) : KN) ≠ (11, b, e, d2)), c_12, c_37] <;> rfl
  · skip
    refine lv_iconst (v := nI 0) hx hb dX1_braidCell_15 (by decide) ?_
    refine x_iret X h hr rfl ?_ (fun k _ => congrFun (congrArg (lay tc ad gm dz) ?_) k) dX1_braidCell_16
    · simp only [gR, bR, if_pos c_12]; rfl
    · simp only [cellM, gA, gB, gT, gU, bX, if_pos c_12, upd_same (α := Int32), sset_id]

theorem braid_see {I : Mem} {b e d d2 f i : Nat} (hne : d ≠ d2) : (braidM (f * 6) (f * 6 + i) I b e d d2) (10, b, e, d) (f * 6 + i) = I (10, b, e, d) (f * 6 + i) ∧ (braidM (f * 6) (f * 6 + i) I b e d d2) (11, b, e, d) (f * 6 + i) = I (11, b, e, d) (f * 6 + i) ∧ (braidM (f * 6) (f * 6 + i) I b e d d2) (10, b, e, d2) (f * 6 + i) = I (10, b, e, d2) (f * 6 + i) ∧ (braidM (f * 6) (f * 6 + i) I b e d d2) (11, b, e, d2) (f * 6 + i) = I (11, b, e, d2) (f * 6 + i) ∧ (braidM (f * 6) (f * 6 + i) I b e d d2) (13, b, e, d) (f * 6 + i) = I (13, b, e, d) (f * 6 + i) ∧ (braidM (f * 6) (f * 6 + i) I b e d d2) (13, b, e, d2) (f * 6 + i) = I (13, b, e, d2) (f * 6 + i) := by
  refine ⟨?_, ?_, ?_, ?_, ?_, ?_⟩ <;> (simp only [braidM, sset_eq, sset_ne _ _ ((nek (by decide)) : ((10, b, e, d) : KN) ≠ (11, b, e, d)), sset_ne _ _ ((ne4 hne) : ((10, b, e, d) : KN) ≠ (10, b, e, d2)), sset_ne _ _ ((nek (by decide)) : ((10, b, e, d) : KN) ≠ (11, b, e, d2)), sset_ne _ _ ((nek (by decide)) : ((10, b, e, d) : KN) ≠ (13, b, e, d)), sset_ne _ _ ((nek (by decide)) : ((10, b, e, d) : KN) ≠ (13, b, e, d2)), sset_ne _ _ ((nek (by decide)) : ((11, b, e, d) : KN) ≠ (10, b, e, d)), sset_ne _ _ ((nek (by decide)) : ((11, b, e, d) : KN) ≠ (10, b, e, d2)), sset_ne _ _ ((ne4 hne) : ((11, b, e, d) : KN) ≠ (11, b, e, d2)), sset_ne _ _ ((nek (by decide)) : ((11, b, e, d) : KN) ≠ (13, b, e, d)), sset_ne _ _ ((nek (by decide)) : ((11, b, e, d) : KN) ≠ (13, b, e, d2)), sset_ne _ _ ((ne4 (Ne.symm hne)) : ((10, b, e, d2) : KN) ≠ (10, b, e, d)), sset_ne _ _ ((nek (by decide)) : ((10, b, e, d2) : KN) ≠ (11, b, e, d)), sset_ne _ _ ((nek (by decide)) : ((10, b, e, d2) : KN) ≠ (11, b, e, d2)), sset_ne _ _ ((nek (by decide)) : ((10, b, e, d2) : KN) ≠ (13, b, e, d)), sset_ne _ _ ((nek (by decide)) : ((10, b, e, d2) : KN) ≠ (13, b, e, d2)), sset_ne _ _ ((nek (by decide)) : ((11, b, e, d2) : KN) ≠ (10, b, e, d)), sset_ne _ _ ((ne4 (Ne.symm hne)) : ((11, b, e, d2) : KN) ≠ (11, b, e, d)), sset_ne _ _ ((nek (by decide)) : ((11, b, e, d2) : KN) ≠ (10, b, e, d2)), sset_ne _ _ ((nek (by decide)) : ((11, b, e, d2) : KN) ≠ (13, b, e, d)), sset_ne _ _ ((nek (by decide)) : ((11, b, e, d2) : KN) ≠ (13, b, e, d2)), sset_ne _ _ ((nek (by decide)) : ((13, b, e, d) : KN) ≠ (10, b, e, d)), sset_ne _ _ ((nek (by decide)) : ((13, b, e, d) : KN) ≠ (11, b, e, d)), sset_ne _ _ ((nek (by decide)) : ((13, b, e, d) : KN) ≠ (10, b, e, d2)), sset_ne _ _ ((nek (by decide)) : ((13, b, e, d) : KN) ≠ (11, b, e, d2)), sset_ne _ _ ((ne4 hne) : ((13, b, e, d) : KN) ≠ (13, b, e, d2)), sset_ne _ _ ((nek (by decide)) : ((13, b, e, d2) : KN) ≠ (10, b, e, d)), sset_ne _ _ ((nek (by decide)) : ((13, b, e, d2) : KN) ≠ (11, b, e, d)), sset_ne _ _ ((nek (by decide)) : ((13, b, e, d2) : KN) ≠ (10, b, e, d2)), sset_ne _ _ ((nek (by decide)) : ((13, b, e, d2) : KN) ≠ (11, b, e, d2)), sset_ne _ _ ((ne4 (Ne.symm hne)) : ((13, b, e, d2) : KN) ≠ (13, b, e, d))]; exact rf_at _ _ _ _)
theorem cell_seen {I : Mem} {b e d d2 c : Nat} : (cellM I b e d d2 c) (13, b, e, d) = I (13, b, e, d) ∧ (cellM I b e d d2 c) (13, b, e, d2) = I (13, b, e, d2) := by
  refine ⟨?_, ?_⟩ <;> simp only [cellM, sset_ne _ _ ((nek (by decide)) : ((13, b, e, d) : KN) ≠ (10, b, e, d)), sset_ne _ _ ((nek (by decide)) : ((13, b, e, d) : KN) ≠ (11, b, e, d)), sset_ne _ _ ((nek (by decide)) : ((13, b, e, d) : KN) ≠ (10, b, e, d2)), sset_ne _ _ ((nek (by decide)) : ((13, b, e, d) : KN) ≠ (11, b, e, d2)), sset_ne _ _ ((nek (by decide)) : ((13, b, e, d2) : KN) ≠ (10, b, e, d)), sset_ne _ _ ((nek (by decide)) : ((13, b, e, d2) : KN) ≠ (11, b, e, d)), sset_ne _ _ ((nek (by decide)) : ((13, b, e, d2) : KN) ≠ (10, b, e, d2)), sset_ne _ _ ((nek (by decide)) : ((13, b, e, d2) : KN) ≠ (11, b, e, d2))]
theorem braid_step {I : Mem} {b e d d2 f i : Nat} (hne : d ≠ d2) {v : Int32} (hv : v = gM (I (13, b, e, d)) (I (13, b, e, d2)) (f * 6 + i)) :
    sset (sset (cellM (braidM (f * 6) (f * 6 + i) I b e d d2) b e d d2 (f * 6 + i)) (13, b, e, d) (upd ((cellM (braidM (f * 6) (f * 6 + i) I b e d d2) b e d d2 (f * 6 + i)) (13, b, e, d)) (f * 6 + i) v)) (13, b, e, d2) (upd ((sset (cellM (braidM (f * 6) (f * 6 + i) I b e d d2) b e d d2 (f * 6 + i)) (13, b, e, d) (upd ((cellM (braidM (f * 6) (f * 6 + i) I b e d d2) b e d d2 (f * 6 + i)) (13, b, e, d)) (f * 6 + i) v)) (13, b, e, d2)) (f * 6 + i) v)
      = braidM (f * 6) (f * 6 + (i + 1)) I b e d d2 := by
  obtain ⟨h1, h2, h3, h4, h5, h6⟩ := braid_see (I := I) (b := b) (e := e) (f := f) (i := i) hne
  rw [cell_seen.1, sset_ne _ _ (ne4 (Ne.symm hne) : ((13, b, e, d2) : KN) ≠ (13, b, e, d)), cell_seen.2]
  unfold cellM
  simp only [gA, gB, gT, gU, h1, h2, h3, h4, h5, h6]
  funext nn
  by_cases e0 : nn = (10, b, e, d)
  · rw [e0]
    unfold braidM
    simp only [sset_eq, sset_ne _ _ ((nek (by decide)) : ((10, b, e, d) : KN) ≠ (11, b, e, d)), sset_ne _ _ ((ne4 hne) : ((10, b, e, d) : KN) ≠ (10, b, e, d2)), sset_ne _ _ ((nek (by decide)) : ((10, b, e, d) : KN) ≠ (11, b, e, d2)), sset_ne _ _ ((nek (by decide)) : ((10, b, e, d) : KN) ≠ (13, b, e, d)), sset_ne _ _ ((nek (by decide)) : ((10, b, e, d) : KN) ≠ (13, b, e, d2)), sset_ne _ _ ((nek (by decide)) : ((11, b, e, d) : KN) ≠ (10, b, e, d)), sset_ne _ _ ((nek (by decide)) : ((11, b, e, d) : KN) ≠ (10, b, e, d2)), sset_ne _ _ ((ne4 hne) : ((11, b, e, d) : KN) ≠ (11, b, e, d2)), sset_ne _ _ ((nek (by decide)) : ((11, b, e, d) : KN) ≠ (13, b, e, d)), sset_ne _ _ ((nek (by decide)) : ((11, b, e, d) : KN) ≠ (13, b, e, d2)), sset_ne _ _ ((ne4 (Ne.symm hne)) : ((10, b, e, d2) : KN) ≠ (10, b, e, d)), sset_ne _ _ ((nek (by decide)) : ((10, b, e, d2) : KN) ≠ (11, b, e, d)), sset_ne _ _ ((nek (by decide)) : ((10, b, e, d2) : KN) ≠ (11, b, e, d2)), sset_ne _ _ ((nek (by decide)) : ((10, b, e, d2) : KN) ≠ (13, b, e, d)), sset_ne _ _ ((nek (by decide)) : ((10, b, e, d2) : KN) ≠ (13, b, e, d2)), sset_ne _ _ ((nek (by decide)) : ((11, b, e, d2) : KN) ≠ (10, b, e, d)), sset_ne _ _ ((ne4 (Ne.symm hne)) : ((11, b, e, d2) : KN) ≠ (11, b, e, d)), sset_ne _ _ ((nek (by decide)) : ((11, b, e, d2) : KN) ≠ (10, b, e, d2)), sset_ne _ _ ((nek (by decide)) : ((11, b, e, d2) : KN) ≠ (13, b, e, d)), sset_ne _ _ ((nek (by decide)) : ((11, b, e, d2) : KN) ≠ (13, b, e, d2)), sset_ne _ _ ((nek (by decide)) : ((13, b, e, d) : KN) ≠ (10, b, e, d)), sset_ne _ _ ((nek (by decide)) : ((13, b, e, d) : KN) ≠ (11, b, e, d)), sset_ne _ _ ((nek (by decide)) : ((13, b, e, d) : KN) ≠ (10, b, e, d2)), sset_ne _ _ ((nek (by decide)) : ((13, b, e, d) : KN) ≠ (11, b, e, d2)), sset_ne _ _ ((ne4 hne) : ((13, b, e, d) : KN) ≠ (13, b, e, d2)), sset_ne _ _ ((nek (by decide)) : ((13, b, e, d2) : KN) ≠ (10, b, e, d)), sset_ne _ _ ((nek (by decide)) : ((13, b, e, d2) : KN) ≠ (11, b, e, d)), sset_ne _ _ ((nek (by decide)) : ((13, b, e, d2) : KN) ≠ (10, b, e, d2)), sset_ne _ _ ((nek (by decide)) : ((13, b, e, d2) : KN) ≠ (11, b, e, d2)), sset_ne _ _ ((ne4 (Ne.symm hne)) : ((13, b, e, d2) : KN) ≠ (13, b, e, d))]
    exact rf_s _ _ _ _ (rfl)
  · skip
    by_cases e1 : nn = (11, b, e, d)
    · rw [e1]
      unfold braidM
      simp only [sset_eq, sset_ne _ _ ((nek (by decide)) : ((10, b, e, d) : KN) ≠ (11, b, e, d)), sset_ne _ _ ((ne4 hne) : ((10, b, e, d) : KN) ≠ (10, b, e, d2)), sset_ne _ _ ((nek (by decide)) : ((10, b, e, d) : KN) ≠ (11, b, e, d2)), sset_ne _ _ ((nek (by decide)) : ((10, b, e, d) : KN) ≠ (13, b, e, d)), sset_ne _ _ ((nek (by decide)) : ((10, b, e, d) : KN) ≠ (13, b, e, d2)), sset_ne _ _ ((nek (by decide)) : ((11, b, e, d) : KN) ≠ (10, b, e, d)), sset_ne _ _ ((nek (by decide)) : ((11, b, e, d) : KN) ≠ (10, b, e, d2)), sset_ne _ _ ((ne4 hne) : ((11, b, e, d) : KN) ≠ (11, b, e, d2)), sset_ne _ _ ((nek (by decide)) : ((11, b, e, d) : KN) ≠ (13, b, e, d)), sset_ne _ _ ((nek (by decide)) : ((11, b, e, d) : KN) ≠ (13, b, e, d2)), sset_ne _ _ ((ne4 (Ne.symm hne)) : ((10, b, e, d2) : KN) ≠ (10, b, e, d)), sset_ne _ _ ((nek (by decide)) : ((10, b, e, d2) : KN) ≠ (11, b, e, d)), sset_ne _ _ ((nek (by decide)) : ((10, b, e, d2) : KN) ≠ (11, b, e, d2)), sset_ne _ _ ((nek (by decide)) : ((10, b, e, d2) : KN) ≠ (13, b, e, d)), sset_ne _ _ ((nek (by decide)) : ((10, b, e, d2) : KN) ≠ (13, b, e, d2)), sset_ne _ _ ((nek (by decide)) : ((11, b, e, d2) : KN) ≠ (10, b, e, d)), sset_ne _ _ ((ne4 (Ne.symm hne)) : ((11, b, e, d2) : KN) ≠ (11, b, e, d)), sset_ne _ _ ((nek (by decide)) : ((11, b, e, d2) : KN) ≠ (10, b, e, d2)), sset_ne _ _ ((nek (by decide)) : ((11, b, e, d2) : KN) ≠ (13, b, e, d)), sset_ne _ _ ((nek (by decide)) : ((11, b, e, d2) : KN) ≠ (13, b, e, d2)), sset_ne _ _ ((nek (by decide)) : ((13, b, e, d) : KN) ≠ (10, b, e, d)), sset_ne _ _ ((nek (by decide)) : ((13, b, e, d) : KN) ≠ (11, b, e, d)), sset_ne _ _ ((nek (by decide)) : ((13, b, e, d) : KN) ≠ (10, b, e, d2)), sset_ne _ _ ((nek (by decide)) : ((13, b, e, d) : KN) ≠ (11, b, e, d2)), sset_ne _ _ ((ne4 hne) : ((13, b, e, d) : KN) ≠ (13, b, e, d2)), sset_ne _ _ ((nek (by decide)) : ((13, b, e, d2) : KN) ≠ (10, b, e, d)), sset_ne _ _ ((nek (by decide)) : ((13, b, e, d2) : KN) ≠ (11, b, e, d)), sset_ne _ _ ((nek (by decide)) : ((13, b, e, d2) : KN) ≠ (10, b, e, d2)), sset_ne _ _ ((nek (by decide)) : ((13, b, e, d2) : KN) ≠ (11, b, e, d2)), sset_ne _ _ ((ne4 (Ne.symm hne)) : ((13, b, e, d2) : KN) ≠ (13, b, e, d))]
      exact rf_s _ _ _ _ (rfl)
    · skip
      by_cases e2 : nn = (10, b, e, d2)
      · rw [e2]
        unfold braidM
        simp only [sset_eq, sset_ne _ _ ((nek (by decide)) : ((10, b, e, d) : KN) ≠ (11, b, e, d)), sset_ne _ _ ((ne4 hne) : ((10, b, e, d) : KN) ≠ (10, b, e, d2)), sset_ne _ _ ((nek (by decide)) : ((10, b, e, d) : KN) ≠ (11, b, e, d2)), sset_ne _ _ ((nek (by decide)) : ((10, b, e, d) : KN) ≠ (13, b, e, d)), sset_ne _ _ ((nek (by decide)) : ((10, b, e, d) : KN) ≠ (13, b, e, d2)), sset_ne _ _ ((nek (by decide)) : ((11, b, e, d) : KN) ≠ (10, b, e, d)), sset_ne _ _ ((nek (by decide)) : ((11, b, e, d) : KN) ≠ (10, b, e, d2)), sset_ne _ _ ((ne4 hne) : ((11, b, e, d) : KN) ≠ (11, b, e, d2)), sset_ne _ _ ((nek (by decide)) : ((11, b, e, d) : KN) ≠ (13, b, e, d)), sset_ne _ _ ((nek (by decide)) : ((11, b, e, d) : KN) ≠ (13, b, e, d2)), sset_ne _ _ ((ne4 (Ne.symm hne)) : ((10, b, e, d2) : KN) ≠ (10, b, e, d)), sset_ne _ _ ((nek (by decide)) : ((10, b, e, d2) : KN) ≠ (11, b, e, d)), sset_ne _ _ ((nek (by decide)) : ((10, b, e, d2) : KN) ≠ (11, b, e, d2)), sset_ne _ _ ((nek (by decide)) : ((10, b, e, d2) : KN) ≠ (13, b, e, d)), sset_ne _ _ ((nek (by decide)) : ((10, b, e, d2) : KN) ≠ (13, b, e, d2)), sset_ne _ _ ((nek (by decide)) : ((11, b, e, d2) : KN) ≠ (10, b, e, d)), sset_ne _ _ ((ne4 (Ne.symm hne)) : ((11, b, e, d2) : KN) ≠ (11, b, e, d)), sset_ne _ _ ((nek (by decide)) : ((11, b, e, d2) : KN) ≠ (10, b, e, d2)), sset_ne _ _ ((nek (by decide)) : ((11, b, e, d2) : KN) ≠ (13, b, e, d)), sset_ne _ _ ((nek (by decide)) : ((11, b, e, d2) : KN) ≠ (13, b, e, d2)), sset_ne _ _ ((nek (by decide)) : ((13, b, e, d) : KN) ≠ (10, b, e, d)), sset_ne _ _ ((nek (by decide)) : ((13, b, e, d) : KN) ≠ (11, b, e, d)), sset_ne _ _ ((nek (by decide)) : ((13, b, e, d) : KN) ≠ (10, b, e, d2)), sset_ne _ _ ((nek (by decide)) : ((13, b, e, d) : KN) ≠ (11, b, e, d2)), sset_ne _ _ ((ne4 hne) : ((13, b, e, d) : KN) ≠ (13, b, e, d2)), sset_ne _ _ ((nek (by decide)) : ((13, b, e, d2) : KN) ≠ (10, b, e, d)), sset_ne _ _ ((nek (by decide)) : ((13, b, e, d2) : KN) ≠ (11, b, e, d)), sset_ne _ _ ((nek (by decide)) : ((13, b, e, d2) : KN) ≠ (10, b, e, d2)), sset_ne _ _ ((nek (by decide)) : ((13, b, e, d2) : KN) ≠ (11, b, e, d2)), sset_ne _ _ ((ne4 (Ne.symm hne)) : ((13, b, e, d2) : KN) ≠ (13, b, e, d))]
        exact rf_s _ _ _ _ (rfl)
      · skip
        by_cases e3 : nn = (11, b, e, d2)
        · rw [e3]
          unfold braidM
          simp only [sset_eq, sset_ne _ _ ((nek (by decide)) : ((10, b, e, d) : KN) ≠ (11, b, e, d)), sset_ne _ _ ((ne4 hne) : ((10, b, e, d) : KN) ≠ (10, b, e, d2)), sset_ne _ _ ((nek (by decide)) : ((10, b, e, d) : KN) ≠ (11, b, e, d2)), sset_ne _ _ ((nek (by decide)) : ((10, b, e, d) : KN) ≠ (13, b, e, d)), sset_ne _ _ ((nek (by decide)) : ((10, b, e, d) : KN) ≠ (13, b, e, d2)), sset_ne _ _ ((nek (by decide)) : ((11, b, e, d) : KN) ≠ (10, b, e, d)), sset_ne _ _ ((nek (by decide)) : ((11, b, e, d) : KN) ≠ (10, b, e, d2)), sset_ne _ _ ((ne4 hne) : ((11, b, e, d) : KN) ≠ (11, b, e, d2)), sset_ne _ _ ((nek (by decide)) : ((11, b, e, d) : KN) ≠ (13, b, e, d)), sset_ne _ _ ((nek (by decide)) : ((11, b, e, d) : KN) ≠ (13, b, e, d2)), sset_ne _ _ ((ne4 (Ne.symm hne)) : ((10, b, e, d2) : KN) ≠ (10, b, e, d)), sset_ne _ _ ((nek (by decide)) : ((10, b, e, d2) : KN) ≠ (11, b, e, d)), sset_ne _ _ ((nek (by decide)) : ((10, b, e, d2) : KN) ≠ (11, b, e, d2)), sset_ne _ _ ((nek (by decide)) : ((10, b, e, d2) : KN) ≠ (13, b, e, d)), sset_ne _ _ ((nek (by decide)) : ((10, b, e, d2) : KN) ≠ (13, b, e, d2)), sset_ne _ _ ((nek (by decide)) : ((11, b, e, d2) : KN) ≠ (10, b, e, d)), sset_ne _ _ ((ne4 (Ne.symm hne)) : ((11, b, e, d2) : KN) ≠ (11, b, e, d)), sset_ne _ _ ((nek (by decide)) : ((11, b, e, d2) : KN) ≠ (10, b, e, d2)), sset_ne _ _ ((nek (by decide)) : ((11, b, e, d2) : KN) ≠ (13, b, e, d)), sset_ne _ _ ((nek (by decide)) : ((11, b, e, d2) : KN) ≠ (13, b, e, d2)), sset_ne _ _ ((nek (by decide)) : ((13, b, e, d) : KN) ≠ (10, b, e, d)), sset_ne _ _ ((nek (by decide)) : ((13, b, e, d) : KN) ≠ (11, b, e, d)), sset_ne _ _ ((nek (by decide)) : ((13, b, e, d) : KN) ≠ (10, b, e, d2)), sset_ne _ _ ((nek (by decide)) : ((13, b, e, d) : KN) ≠ (11, b, e, d2)), sset_ne _ _ ((ne4 hne) : ((13, b, e, d) : KN) ≠ (13, b, e, d2)), sset_ne _ _ ((nek (by decide)) : ((13, b, e, d2) : KN) ≠ (10, b, e, d)), sset_ne _ _ ((nek (by decide)) : ((13, b, e, d2) : KN) ≠ (11, b, e, d)), sset_ne _ _ ((nek (by decide)) : ((13, b, e, d2) : KN) ≠ (10, b, e, d2)), sset_ne _ _ ((nek (by decide)) : ((13, b, e, d2) : KN) ≠ (11, b, e, d2)), sset_ne _ _ ((ne4 (Ne.symm hne)) : ((13, b, e, d2) : KN) ≠ (13, b, e, d))]
          exact rf_s _ _ _ _ (rfl)
        · skip
          by_cases e4 : nn = (13, b, e, d)
          · rw [e4]
            unfold braidM
            simp only [sset_eq, sset_ne _ _ ((nek (by decide)) : ((10, b, e, d) : KN) ≠ (11, b, e, d)), sset_ne _ _ ((ne4 hne) : ((10, b, e, d) : KN) ≠ (10, b, e, d2)), sset_ne _ _ ((nek (by decide)) : ((10, b, e, d) : KN) ≠ (11, b, e, d2)), sset_ne _ _ ((nek (by decide)) : ((10, b, e, d) : KN) ≠ (13, b, e, d)), sset_ne _ _ ((nek (by decide)) : ((10, b, e, d) : KN) ≠ (13, b, e, d2)), sset_ne _ _ ((nek (by decide)) : ((11, b, e, d) : KN) ≠ (10, b, e, d)), sset_ne _ _ ((nek (by decide)) : ((11, b, e, d) : KN) ≠ (10, b, e, d2)), sset_ne _ _ ((ne4 hne) : ((11, b, e, d) : KN) ≠ (11, b, e, d2)), sset_ne _ _ ((nek (by decide)) : ((11, b, e, d) : KN) ≠ (13, b, e, d)), sset_ne _ _ ((nek (by decide)) : ((11, b, e, d) : KN) ≠ (13, b, e, d2)), sset_ne _ _ ((ne4 (Ne.symm hne)) : ((10, b, e, d2) : KN) ≠ (10, b, e, d)), sset_ne _ _ ((nek (by decide)) : ((10, b, e, d2) : KN) ≠ (11, b, e, d)), sset_ne _ _ ((nek (by decide)) : ((10, b, e, d2) : KN) ≠ (11, b, e, d2)), sset_ne _ _ ((nek (by decide)) : ((10, b, e, d2) : KN) ≠ (13, b, e, d)), sset_ne _ _ ((nek (by decide)) : ((10, b, e, d2) : KN) ≠ (13, b, e, d2)), sset_ne _ _ ((nek (by decide)) : ((11, b, e, d2) : KN) ≠ (10, b, e, d)), sset_ne _ _ ((ne4 (Ne.symm hne)) : ((11, b, e, d2) : KN) ≠ (11, b, e, d)), sset_ne _ _ ((nek (by decide)) : ((11, b, e, d2) : KN) ≠ (10, b, e, d2)), sset_ne _ _ ((nek (by decide)) : ((11, b, e, d2) : KN) ≠ (13, b, e, d)), sset_ne _ _ ((nek (by decide)) : ((11, b, e, d2) : KN) ≠ (13, b, e, d2)), sset_ne _ _ ((nek (by decide)) : ((13, b, e, d) : KN) ≠ (10, b, e, d)), sset_ne _ _ ((nek (by decide)) : ((13, b, e, d) : KN) ≠ (11, b, e, d)), sset_ne _ _ ((nek (by decide)) : ((13, b, e, d) : KN) ≠ (10, b, e, d2)), sset_ne _ _ ((nek (by decide)) : ((13, b, e, d) : KN) ≠ (11, b, e, d2)), sset_ne _ _ ((ne4 hne) : ((13, b, e, d) : KN) ≠ (13, b, e, d2)), sset_ne _ _ ((nek (by decide)) : ((13, b, e, d2) : KN) ≠ (10, b, e, d)), sset_ne _ _ ((nek (by decide)) : ((13, b, e, d2) : KN) ≠ (11, b, e, d)), sset_ne _ _ ((nek (by decide)) : ((13, b, e, d2) : KN) ≠ (10, b, e, d2)), sset_ne _ _ ((nek (by decide)) : ((13, b, e, d2) : KN) ≠ (11, b, e, d2)), sset_ne _ _ ((ne4 (Ne.symm hne)) : ((13, b, e, d2) : KN) ≠ (13, b, e, d))]
            exact rf_s _ _ _ _ (hv)
          · skip
            by_cases e5 : nn = (13, b, e, d2)
            · rw [e5]
              unfold braidM
              simp only [sset_eq, sset_ne _ _ ((nek (by decide)) : ((10, b, e, d) : KN) ≠ (11, b, e, d)), sset_ne _ _ ((ne4 hne) : ((10, b, e, d) : KN) ≠ (10, b, e, d2)), sset_ne _ _ ((nek (by decide)) : ((10, b, e, d) : KN) ≠ (11, b, e, d2)), sset_ne _ _ ((nek (by decide)) : ((10, b, e, d) : KN) ≠ (13, b, e, d)), sset_ne _ _ ((nek (by decide)) : ((10, b, e, d) : KN) ≠ (13, b, e, d2)), sset_ne _ _ ((nek (by decide)) : ((11, b, e, d) : KN) ≠ (10, b, e, d)), sset_ne _ _ ((nek (by decide)) : ((11, b, e, d) : KN) ≠ (10, b, e, d2)), sset_ne _ _ ((ne4 hne) : ((11, b, e, d) : KN) ≠ (11, b, e, d2)), sset_ne _ _ ((nek (by decide)) : ((11, b, e, d) : KN) ≠ (13, b, e, d)), sset_ne _ _ ((nek (by decide)) : ((11, b, e, d) : KN) ≠ (13, b, e, d2)), sset_ne _ _ ((ne4 (Ne.symm hne)) : ((10, b, e, d2) : KN) ≠ (10, b, e, d)), sset_ne _ _ ((nek (by decide)) : ((10, b, e, d2) : KN) ≠ (11, b, e, d)), sset_ne _ _ ((nek (by decide)) : ((10, b, e, d2) : KN) ≠ (11, b, e, d2)), sset_ne _ _ ((nek (by decide)) : ((10, b, e, d2) : KN) ≠ (13, b, e, d)), sset_ne _ _ ((nek (by decide)) : ((10, b, e, d2) : KN) ≠ (13, b, e, d2)), sset_ne _ _ ((nek (by decide)) : ((11, b, e, d2) : KN) ≠ (10, b, e, d)), sset_ne _ _ ((ne4 (Ne.symm hne)) : ((11, b, e, d2) : KN) ≠ (11, b, e, d)), sset_ne _ _ ((nek (by decide)) : ((11, b, e, d2) : KN) ≠ (10, b, e, d2)), sset_ne _ _ ((nek (by decide)) : ((11, b, e, d2) : KN) ≠ (13, b, e, d)), sset_ne _ _ ((nek (by decide)) : ((11, b, e, d2) : KN) ≠ (13, b, e, d2)), sset_ne _ _ ((nek (by decide)) : ((13, b, e, d) : KN) ≠ (10, b, e, d)), sset_ne _ _ ((nek (by decide)) : ((13, b, e, d) : KN) ≠ (11, b, e, d)), sset_ne _ _ ((nek (by decide)) : ((13, b, e, d) : KN) ≠ (10, b, e, d2)), sset_ne _ _ ((nek (by decide)) : ((13, b, e, d) : KN) ≠ (11, b, e, d2)), sset_ne _ _ ((ne4 hne) : ((13, b, e, d) : KN) ≠ (13, b, e, d2)), sset_ne _ _ ((nek (by decide)) : ((13, b, e, d2) : KN) ≠ (10, b, e, d)), sset_ne _ _ ((nek (by decide)) : ((13, b, e, d2) : KN) ≠ (11, b, e, d)), sset_ne _ _ ((nek (by decide)) : ((13, b, e, d2) : KN) ≠ (10, b, e, d2)), sset_ne _ _ ((nek (by decide)) : ((13, b, e, d2) : KN) ≠ (11, b, e, d2)), sset_ne _ _ ((ne4 (Ne.symm hne)) : ((13, b, e, d2) : KN) ≠ (13, b, e, d))]
              exact rf_s _ _ _ _ (hv)
            · skip
              unfold braidM
              simp only [sset_ne _ _ e0, sset_ne _ _ e1, sset_ne _ _ e2, sset_ne _ _ e3, sset_ne _ _ e4, sset_ne _ _ e5]

set_option maxHeartbeats 4000000 in
set_option maxRecDepth 100000 in
theorem m_X1_braid {l : Launch} {D : va_G} {tc : TC} {dz : Nat} {ad : KN → Nat} {Ks : List KN} {gm : GM} (I : Mem) (b e d : Nat) (hL : LV gm Ks) (hb2 : b < 2) (he : e < 10) (hd : d < 6) (d2 : Nat) (hd2 : d2 < 6) (hne : d ≠ d2) (f : Nat) (hf : f < 4) : MI l yX1_braid cX1_braid 7 (Option.some ClassFile.FieldType.int) 1 D tc dz ad Ks (lay tc ad gm dz I) [.ref (ad (9, b, e, d)), .ref (ad (9, b, e, d2)), .int (nI f)] (sumI (fun i => gR (I (10, b, e, d)) (I (10, b, e, d2)) (I (13, b, e, d)) (I (13, b, e, d2)) (f * 6 + i)) 6) (lay tc ad gm dz (braidM (f * 6) (f * 6 + 6) I b e d d2)) := by
  intro sz
  refine x_ofW (by decide +kernel) (Nat.le_of_ble_eq_true rfl) (fun pp ee s mm bel meth cd ls X hr hin hz h hl => ?_)
  subst hz
  obtain ⟨hx, hb, hmaxL, hown, hts⟩ := id X.1
  have hl : lv_has ls 7 [(0, .ref (ad (9, b, e, d))), (1, .ref (ad (9, b, e, d2))), (2, .int (nI f))] := hl
  refine lv_iconst (v := nI 0) hx hb dX1_braid_0 (by decide) ?_
  refine lv_istore_n (lv' := [(3, .int (nI 0)), (0, .ref (ad (9, b, e, d))), (1, .ref (ad (9, b, e, d2))), (2, .int (nI f))]) hx hb dX1_braid_1 rfl hl (by decide) rfl (fun ls hl => ?_)
  refine lv_iconst (v := nI 0) hx hb dX1_braid_2 (by decide) ?_
  refine lv_istore (lv' := [(4, .int (nI 0)), (3, .int (nI 0)), (0, .ref (ad (9, b, e, d))), (1, .ref (ad (9, b, e, d2))), (2, .int (nI f))]) hx hb dX1_braid_3 hl (by decide) rfl (fun ls hl => ?_)
  refine y_loop (D := D) (A := wA ad Ks s.heap.size) (ad := ad) (Ks := Ks) (nL := 7) (fun i : Nat => lay tc ad gm dz (braidM (f * 6) (f * 6 + i) I b e d d2)) (fun i => [(4, .int (nI i)), (3, .int (sumI (fun i => gR (I (10, b, e, d)) (I (10, b, e, d2)) (I (13, b, e, d)) (I (13, b, e, d2)) (f * 6 + i)) i)), (2, .int (nI f)), (0, .ref (ad (9, b, e, d))), (1, .ref (ad (9, b, e, d2)))]) (fun _ => []) (fun i : Nat => i ≤ 6) (fun i => 6 - i) (fun i hi5 ih5 H locs ls h hl => ?_) 0 (Nat.zero_le _) (h.eq (congrArg (lay tc ad gm dz) (by simp only [braidM, Nat.add_zero, rf_0, sset_id]))) (lv_sub hl [0, 1, 4, 2, 3] rfl) rfl
  have h : Sx D (wA ad Ks s.heap.size) ad Ks (lay tc ad gm dz (braidM (f * 6) (f * 6 + i) I b e d d2)) s H locs := h
  have hl : lv_has ls 7 [(4, .int (nI i)), (3, .int (sumI (fun i => gR (I (10, b, e, d)) (I (10, b, e, d2)) (I (13, b, e, d)) (I (13, b, e, d2)) (f * 6 + i)) i)), (2, .int (nI f)), (0, .ref (ad (9, b, e, d))), (1, .ref (ad (9, b, e, d2)))] := hl
  refine lv_iload hx hb dX1_braid_5 (lv_at hl 0 rfl) ?_
  refine lv_bipush (v := nI 6) hx hb dX1_braid_7 (by decide) ?_
  refine n_icmp_ge (tgt := 85) hx hb (by omega) (by omega) dX1_braid_9 (by decide) (fun c_9 => ?_) (fun c_9 => ?_)
  · skip
    obtain rfl : i = 6 := by omega
    refine lv_iload_n hx hb dX1_braid_85 rfl (lv_at hl 1 rfl) ?_
    exact x_iret X h hr rfl rfl (fun _ _ => rfl) dX1_braid_86
  · skip
    refine lv_iload_n hx hb dX1_braid_12 rfl (lv_at hl 2 rfl) ?_
    refine lv_iload hx hb dX1_braid_13 (lv_at hl 0 rfl) ?_
    refine x_doneI X h (x_runSN X h (m_X6_cell (braidM (f * 6) (f * 6 + i) I b e d d2) f i _) F_X6_cell t327 q328 rfl (by decide) (by decide) ⟨Nat.le_refl _, Nat.le_refl _⟩ hl.1 (Nat.le_of_ble_eq_true rfl) dX1_braid_15 rfl) (fun H locs h => ?_)
    refine lv_istore (lv' := [(5, .int (nI (f * 6 + i))), (4, .int (nI i)), (3, .int (sumI (fun i => gR (I (10, b, e, d)) (I (10, b, e, d2)) (I (13, b, e, d)) (I (13, b, e, d2)) (f * 6 + i)) i)), (2, .int (nI f)), (0, .ref (ad (9, b, e, d))), (1, .ref (ad (9, b, e, d2)))]) hx hb dX1_braid_18 hl (by decide) rfl (fun ls hl => ?_)
    refine lv_iload_n hx hb dX1_braid_20 rfl (lv_at hl 2 rfl) ?_
    refine lv_aload_n hx hb dX1_braid_21 rfl (lv_at hl 4 rfl) ?_
    refine lv_aload_n hx hb dX1_braid_22 rfl (lv_at hl 5 rfl) ?_
    refine lv_iload hx hb dX1_braid_23 (lv_at hl 0 rfl) ?_
    refine x_doneI X h (x_runV X h (k := (9, b, e, d)) (m_X1_braidCell (braidM (f * 6) (f * 6 + i) I b e d d2) b e d hL hb2 he hd d2 hd2 hne (f * 6 + i) (by omega) _) F_X1_braidCell q634 q635 q636 (hL (9, b, e, d) ⟨by omega, by omega, by omega⟩) rfl rfl rfl (by decide) (by decide) ⟨Nat.le_refl _, Nat.le_refl _⟩ hl.1 (Nat.le_of_ble_eq_true rfl) dX1_braid_25 rfl) (fun H locs h => ?_)
    obtain ⟨s1, s2, s3, s4, s5, s6⟩ := braid_see (I := I) (b := b) (e := e) (f := f) (i := i) hne
    rw [show gR ((braidM (f * 6) (f * 6 + i) I b e d d2) (10, b, e, d)) ((braidM (f * 6) (f * 6 + i) I b e d d2) (10, b, e, d2)) ((braidM (f * 6) (f * 6 + i) I b e d d2) (13, b, e, d)) ((braidM (f * 6) (f * 6 + i) I b e d d2) (13, b, e, d2)) (f * 6 + i) = gR (I (10, b, e, d)) (I (10, b, e, d2)) (I (13, b, e, d)) (I (13, b, e, d2)) (f * 6 + i) from by simp only [gR, s1, s3, s5, s6]]
    refine lv_iadd hx hb dX1_braid_28 ?_
    refine lv_istore_n (lv' := [(3, .int ((sumI (fun i => gR (I (10, b, e, d)) (I (10, b, e, d2)) (I (13, b, e, d)) (I (13, b, e, d2)) (f * 6 + i)) i) + (gR (I (10, b, e, d)) (I (10, b, e, d2)) (I (13, b, e, d)) (I (13, b, e, d2)) (f * 6 + i)))), (5, .int (nI (f * 6 + i))), (4, .int (nI i)), (2, .int (nI f)), (0, .ref (ad (9, b, e, d))), (1, .ref (ad (9, b, e, d2)))]) hx hb dX1_braid_29 rfl hl (by decide) rfl (fun ls hl => ?_)
    refine lv_aload_n hx hb dX1_braid_30 rfl (lv_at hl 4 rfl) ?_
    refine gf_Copy_seen X h (hL (9, b, e, d) ⟨by omega, by omega, by omega⟩) q108 dX1_braid_31 ?_
    refine gf_Numbers_numbers X h (fun _ => rfl) (hL (12, b, e, d) ⟨by omega, by omega, by omega⟩) q92 dX1_braid_34 ?_
    refine lv_iload hx hb dX1_braid_37 (lv_at hl 1 rfl) ?_
    refine y_ald X h (fun _ => rfl) (by decide) (hL (13, b, e, d) ⟨by omega, by omega, by omega⟩) (by omega) (v := I (13, b, e, d) (f * 6 + i)) ((congrFun cell_seen.1 _).trans s5) dX1_braid_39 ?_
    refine lv_aload_n hx hb dX1_braid_40 rfl (lv_at hl 5 rfl) ?_
    refine gf_Copy_seen X h (hL (9, b, e, d2) ⟨by omega, by omega, by omega⟩) q108 dX1_braid_41 ?_
    refine gf_Numbers_numbers X h (fun _ => rfl) (hL (12, b, e, d2) ⟨by omega, by omega, by omega⟩) q92 dX1_braid_44 ?_
    refine lv_iload hx hb dX1_braid_47 (lv_at hl 1 rfl) ?_
    refine y_ald X h (fun _ => rfl) (by decide) (hL (13, b, e, d2) ⟨by omega, by omega, by omega⟩) (by omega) (v := I (13, b, e, d2) (f * 6 + i)) ((congrFun cell_seen.2 _).trans s6) dX1_braid_49 ?_
    refine x_max X hl.1 q638 (by decide) (Nat.le_of_ble_eq_true rfl) (Nat.le_refl _) (Nat.le_refl _) dX1_braid_50 ?_
    rw [show (if (I (13, b, e, d) (f * 6 + i)) < (I (13, b, e, d2) (f * 6 + i)) then I (13, b, e, d2) (f * 6 + i) else I (13, b, e, d) (f * 6 + i)) = gM (I (13, b, e, d)) (I (13, b, e, d2)) (f * 6 + i) from rfl]
    refine lv_istore (lv' := [(6, .int (gM (I (13, b, e, d)) (I (13, b, e, d2)) (f * 6 + i))), (3, .int ((sumI (fun i => gR (I (10, b, e, d)) (I (10, b, e, d2)) (I (13, b, e, d)) (I (13, b, e, d2)) (f * 6 + i)) i) + (gR (I (10, b, e, d)) (I (10, b, e, d2)) (I (13, b, e, d)) (I (13, b, e, d2)) (f * 6 + i)))), (5, .int (nI (f * 6 + i))), (4, .int (nI i)), (2, .int (nI f)), (0, .ref (ad (9, b, e, d))), (1, .ref (ad (9, b, e, d2)))]) hx hb dX1_braid_53 hl (by decide) rfl (fun ls hl => ?_)
    refine lv_aload_n hx hb dX1_braid_55 rfl (lv_at hl 5 rfl) ?_
    refine gf_Copy_seen X h (hL (9, b, e, d) ⟨by omega, by omega, by omega⟩) q108 dX1_braid_56 ?_
    refine gf_Numbers_numbers X h (fun _ => rfl) (hL (12, b, e, d) ⟨by omega, by omega, by omega⟩) q92 dX1_braid_59 ?_
    refine lv_iload hx hb dX1_braid_62 (lv_at hl 2 rfl) ?_
    refine lv_iload hx hb dX1_braid_64 (lv_at hl 0 rfl) ?_
    refine y_ast X h (fun _ => rfl) (by decide) (hL (13, b, e, d) ⟨by omega, by omega, by omega⟩) (by omega) dX1_braid_66 (fun H locs h => ?_)
    refine lv_aload_n hx hb dX1_braid_67 rfl (lv_at hl 6 rfl) ?_
    refine gf_Copy_seen X h (hL (9, b, e, d2) ⟨by omega, by omega, by omega⟩) q108 dX1_braid_68 ?_
    refine gf_Numbers_numbers X h (fun _ => rfl) (hL (12, b, e, d2) ⟨by omega, by omega, by omega⟩) q92 dX1_braid_71 ?_
    refine lv_iload hx hb dX1_braid_74 (lv_at hl 2 rfl) ?_
    refine lv_iload hx hb dX1_braid_76 (lv_at hl 0 rfl) ?_
    refine y_ast X h (fun _ => rfl) (by decide) (hL (13, b, e, d2) ⟨by omega, by omega, by omega⟩) (by omega) dX1_braid_78 (fun H locs h => ?_)
    refine n_iinc (j := i) (n := 1) (lv' := [(4, .int (nI (i + 1))), (6, .int (gM (I (13, b, e, d)) (I (13, b, e, d2)) (f * 6 + i))), (3, .int ((sumI (fun i => gR (I (10, b, e, d)) (I (10, b, e, d2)) (I (13, b, e, d)) (I (13, b, e, d2)) (f * 6 + i)) i) + (gR (I (10, b, e, d)) (I (10, b, e, d2)) (I (13, b, e, d)) (I (13, b, e, d2)) (f * 6 + i)))), (5, .int (nI (f * 6 + i))), (2, .int (nI f)), (0, .ref (ad (9, b, e, d))), (1, .ref (ad (9, b, e, d2)))]) hx hb dX1_braid_79 hl (k := 3) rfl (by decide) (by decide) rfl (fun ls hl => ?_)
    refine lv_goto (tgt := 5) hx hb dX1_braid_82 (by decide) ?_
    exact ih5 (i + 1) (by omega) (by omega) H locs ls (h.eq (congrArg (lay tc ad gm dz) (braid_step hne rfl))) (lv_sub hl [0, 2, 4, 5, 6] rfl)

set_option maxHeartbeats 4000000 in
set_option maxRecDepth 100000 in
theorem m_X1_exchangeNotes {l : Launch} {D : va_G} {tc : TC} {dz : Nat} {ad : KN → Nat} {Ks : List KN} {gm : GM} (I : Mem) (b e d : Nat) (hL : LV gm Ks) (hb2 : b < 2) (he : e < 10) (hd : d < 6) (d2 : Nat) (hd2 : d2 < 6) (hne : d ≠ d2) : MV l yX1_exchangeNotes cX1_exchangeNotes 2 2 D tc dz ad Ks (lay tc ad gm dz I) [.ref (ad (9, b, e, d)), .ref (ad (9, b, e, d2))] (lay tc ad gm dz (exchM I b e d d2)) := by
  intro sz
  refine x_ofW (by decide +kernel) (Nat.le_of_ble_eq_true rfl) (fun pp ee s mm bel meth cd ls X hr hin hz h hl => ?_)
  subst hz
  obtain ⟨hx, hb, hmaxL, hown, hts⟩ := id X.1
  have hl : lv_has ls 2 [(0, .ref (ad (9, b, e, d))), (1, .ref (ad (9, b, e, d2)))] := hl
  refine lv_aload_n hx hb dX1_exchangeNotes_0 rfl (lv_at hl 0 rfl) ?_
  refine gf_Copy_noted X h (hL (9, b, e, d) ⟨by omega, by omega, by omega⟩) q101 (v := I (9, b, e, d) 1) rfl dX1_exchangeNotes_1 ?_
  refine lv_if_ne (tgt := 15) hx hb dX1_exchangeNotes_4 (by decide) (fun c_4 => ?_) (fun c_4 => ?_)
  · skip
    refine lv_aload_n hx hb dX1_exchangeNotes_15 rfl (lv_at hl 0 rfl) ?_
    refine lv_iconst (v := nI 1) hx hb dX1_exchangeNotes_16 (by decide) ?_
    refine pf_Copy_noted X h (hL (9, b, e, d) ⟨by omega, by omega, by omega⟩) q101 (by decide) (by decide) dX1_exchangeNotes_17 (fun H locs h => ?_)
    refine lv_aload_n hx hb dX1_exchangeNotes_20 rfl (lv_at hl 1 rfl) ?_
    refine lv_iconst (v := nI 1) hx hb dX1_exchangeNotes_21 (by decide) ?_
    refine pf_Copy_noted X h (hL (9, b, e, d2) ⟨by omega, by omega, by omega⟩) q101 (by decide) (by decide) dX1_exchangeNotes_22 (fun H locs h => ?_)
    refine lv_aload_n hx hb dX1_exchangeNotes_25 rfl (lv_at hl 0 rfl) ?_
    refine gf_Copy_note X h (hL (9, b, e, d) ⟨by omega, by omega, by omega⟩) q112 dX1_exchangeNotes_26 ?_
    refine lv_aload_n hx hb dX1_exchangeNotes_29 rfl (lv_at hl 1 rfl) ?_
    refine gf_Copy_note X h (hL (9, b, e, d2) ⟨by omega, by omega, by omega⟩) q112 dX1_exchangeNotes_30 ?_
    refine x_doneV X h (x_runV X h (k := (14, b, e, d)) (m_X5_raiseTo (sset (sset I (9, b, e, d) (upd (I (9, b, e, d)) 1 (nI 1))) (9, b, e, d2) (upd ((sset I (9, b, e, d) (upd (I (9, b, e, d)) 1 (nI 1))) (9, b, e, d2)) 1 (nI 1))) (14, b, e, d) (15, b, e, d) (fun _ => rfl) (fun _ => rfl) (hL (14, b, e, d) ⟨by omega, by omega, by omega⟩) (hL (15, b, e, d) ⟨by omega, by omega, by omega⟩) (14, b, e, d2) (15, b, e, d2) (fun _ => rfl) (fun _ => rfl) (hL (14, b, e, d2) ⟨by omega, by omega, by omega⟩) (hL (15, b, e, d2) ⟨by omega, by omega, by omega⟩) _) F_X5_raiseTo q648 q578 q579 (hL (14, b, e, d) ⟨by omega, by omega, by omega⟩) rfl rfl rfl (by decide) (by decide) ⟨Nat.le_refl _, Nat.le_refl _⟩ hl.1 (Nat.le_of_ble_eq_true rfl) dX1_exchangeNotes_33 rfl) (fun H locs h => ?_)
    refine lv_aload_n hx hb dX1_exchangeNotes_36 rfl (lv_at hl 1 rfl) ?_
    refine gf_Copy_note X h (hL (9, b, e, d2) ⟨by omega, by omega, by omega⟩) q112 dX1_exchangeNotes_37 ?_
    refine lv_aload_n hx hb dX1_exchangeNotes_40 rfl (lv_at hl 0 rfl) ?_
    refine gf_Copy_note X h (hL (9, b, e, d) ⟨by omega, by omega, by omega⟩) q112 dX1_exchangeNotes_41 ?_
    refine x_doneV X h (x_runV X h (k := (14, b, e, d2)) (m_X5_raiseTo (sset (sset (sset I (9, b, e, d) (upd (I (9, b, e, d)) 1 (nI 1))) (9, b, e, d2) (upd ((sset I (9, b, e, d) (upd (I (9, b, e, d)) 1 (nI 1))) (9, b, e, d2)) 1 (nI 1))) (15, b, e, d) (gM ((sset (sset I (9, b, e, d) (upd (I (9, b, e, d)) 1 (nI 1))) (9, b, e, d2) (upd ((sset I (9, b, e, d) (upd (I (9, b, e, d)) 1 (nI 1))) (9, b, e, d2)) 1 (nI 1))) (15, b, e, d)) ((sset (sset I (9, b, e, d) (upd (I (9, b, e, d)) 1 (nI 1))) (9, b, e, d2) (upd ((sset I (9, b, e, d) (upd (I (9, b, e, d)) 1 (nI 1))) (9, b, e, d2)) 1 (nI 1))) (15, b, e, d2)))) (14, b, e, d2) (15, b, e, d2) (fun _ => rfl) (fun _ => rfl) (hL (14, b, e, d2) ⟨by omega, by omega, by omega⟩) (hL (15, b, e, d2) ⟨by omega, by omega, by omega⟩) (14, b, e, d) (15, b, e, d) (fun _ => rfl) (fun _ => rfl) (hL (14, b, e, d) ⟨by omega, by omega, by omega⟩) (hL (15, b, e, d) ⟨by omega, by omega, by omega⟩) _) F_X5_raiseTo q648 q578 q579 (hL (14, b, e, d2) ⟨by omega, by omega, by omega⟩) rfl rfl rfl (by decide) (by decide) ⟨Nat.le_refl _, Nat.le_refl _⟩ hl.1 (Nat.le_of_ble_eq_true rfl) dX1_exchangeNotes_44 rfl) (fun H locs h => ?_)
    refine x_vret X h hr (fun k _ => congrFun (congrArg (lay tc ad gm dz) ?_) k) dX1_exchangeNotes_47
    · rw [exchM, if_pos (by simp only [nz, c_4, ↓reduceIte, Bool.true_or, Bool.or_true])]
      simp only [sset_eq, sset_sset, sset_ne _ _ ((ne4 (Ne.symm hne)) : ((9, b, e, d2) : KN) ≠ (9, b, e, d)), sset_ne _ _ ((nek (by decide)) : ((15, b, e, d) : KN) ≠ (9, b, e, d)), sset_ne _ _ ((nek (by decide)) : ((15, b, e, d2) : KN) ≠ (9, b, e, d)), sset_ne _ _ ((nek (by decide)) : ((15, b, e, d) : KN) ≠ (9, b, e, d2)), sset_ne _ _ ((nek (by decide)) : ((15, b, e, d2) : KN) ≠ (9, b, e, d2)), sset_ne _ _ ((ne4 (Ne.symm hne)) : ((15, b, e, d2) : KN) ≠ (15, b, e, d))]
      rfl
  · skip
    refine lv_aload_n hx hb dX1_exchangeNotes_7 rfl (lv_at hl 1 rfl) ?_
    refine gf_Copy_noted X h (hL (9, b, e, d2) ⟨by omega, by omega, by omega⟩) q101 (v := I (9, b, e, d2) 1) rfl dX1_exchangeNotes_8 ?_
    refine lv_if_ne (tgt := 15) hx hb dX1_exchangeNotes_11 (by decide) (fun c_11 => ?_) (fun c_11 => ?_)
    · skip
      refine lv_aload_n hx hb dX1_exchangeNotes_15 rfl (lv_at hl 0 rfl) ?_
      refine lv_iconst (v := nI 1) hx hb dX1_exchangeNotes_16 (by decide) ?_
      refine pf_Copy_noted X h (hL (9, b, e, d) ⟨by omega, by omega, by omega⟩) q101 (by decide) (by decide) dX1_exchangeNotes_17 (fun H locs h => ?_)
      refine lv_aload_n hx hb dX1_exchangeNotes_20 rfl (lv_at hl 1 rfl) ?_
      refine lv_iconst (v := nI 1) hx hb dX1_exchangeNotes_21 (by decide) ?_
      refine pf_Copy_noted X h (hL (9, b, e, d2) ⟨by omega, by omega, by omega⟩) q101 (by decide) (by decide) dX1_exchangeNotes_22 (fun H locs h => ?_)
      refine lv_aload_n hx hb dX1_exchangeNotes_25 rfl (lv_at hl 0 rfl) ?_
      refine gf_Copy_note X h (hL (9, b, e, d) ⟨by omega, by omega, by omega⟩) q112 dX1_exchangeNotes_26 ?_
      refine lv_aload_n hx hb dX1_exchangeNotes_29 rfl (lv_at hl 1 rfl) ?_
      refine gf_Copy_note X h (hL (9, b, e, d2) ⟨by omega, by omega, by omega⟩) q112 dX1_exchangeNotes_30 ?_
      refine x_doneV X h (x_runV X h (k := (14, b, e, d)) (m_X5_raiseTo (sset (sset I (9, b, e, d) (upd (I (9, b, e, d)) 1 (nI 1))) (9, b, e, d2) (upd ((sset I (9, b, e, d) (upd (I (9, b, e, d)) 1 (nI 1))) (9, b, e, d2)) 1 (nI 1))) (14, b, e, d) (15, b, e, d) (fun _ => rfl) (fun _ => rfl) (hL (14, b, e, d) ⟨by omega, by omega, by omega⟩) (hL (15, b, e, d) ⟨by omega, by omega, by omega⟩) (14, b, e, d2) (15, b, e, d2) (fun _ => rfl) (fun _ => rfl) (hL (14, b, e, d2) ⟨by omega, by omega, by omega⟩) (hL (15, b, e, d2) ⟨by omega, by omega, by omega⟩) _) F_X5_raiseTo q648 q578 q579 (hL (14, b, e, d) ⟨by omega, by omega, by omega⟩) rfl rfl rfl (by decide) (by decide) ⟨Nat.le_refl _, Nat.le_refl _⟩ hl.1 (Nat.le_of_ble_eq_true rfl) dX1_exchangeNotes_33 rfl) (fun H locs h => ?_)
      refine lv_aload_n hx hb dX1_exchangeNotes_36 rfl (lv_at hl 1 rfl) ?_
      refine gf_Copy_note X h (hL (9, b, e, d2) ⟨by omega, by omega, by omega⟩) q112 dX1_exchangeNotes_37 ?_
      refine lv_aload_n hx hb dX1_exchangeNotes_40 rfl (lv_at hl 0 rfl) ?_
      refine gf_Copy_note X h (hL (9, b, e, d) ⟨by omega, by omega, by omega⟩) q112 dX1_exchangeNotes_41 ?_
      refine x_doneV X h (x_runV X h (k := (14, b, e, d2)) (m_X5_raiseTo (sset (sset (sset I (9, b, e, d) (upd (I (9, b, e, d)) 1 (nI 1))) (9, b, e, d2) (upd ((sset I (9, b, e, d) (upd (I (9, b, e, d)) 1 (nI 1))) (9, b, e, d2)) 1 (nI 1))) (15, b, e, d) (gM ((sset (sset I (9, b, e, d) (upd (I (9, b, e, d)) 1 (nI 1))) (9, b, e, d2) (upd ((sset I (9, b, e, d) (upd (I (9, b, e, d)) 1 (nI 1))) (9, b, e, d2)) 1 (nI 1))) (15, b, e, d)) ((sset (sset I (9, b, e, d) (upd (I (9, b, e, d)) 1 (nI 1))) (9, b, e, d2) (upd ((sset I (9, b, e, d) (upd (I (9, b, e, d)) 1 (nI 1))) (9, b, e, d2)) 1 (nI 1))) (15, b, e, d2)))) (14, b, e, d2) (15, b, e, d2) (fun _ => rfl) (fun _ => rfl) (hL (14, b, e, d2) ⟨by omega, by omega, by omega⟩) (hL (15, b, e, d2) ⟨by omega, by omega, by omega⟩) (14, b, e, d) (15, b, e, d) (fun _ => rfl) (fun _ => rfl) (hL (14, b, e, d) ⟨by omega, by omega, by omega⟩) (hL (15, b, e, d) ⟨by omega, by omega, by omega⟩) _) F_X5_raiseTo q648 q578 q579 (hL (14, b, e, d2) ⟨by omega, by omega, by omega⟩) rfl rfl rfl (by decide) (by decide) ⟨Nat.le_refl _, Nat.le_refl _⟩ hl.1 (Nat.le_of_ble_eq_true rfl) dX1_exchangeNotes_44 rfl) (fun H locs h => ?_)
      refine x_vret X h hr (fun k _ => congrFun (congrArg (lay tc ad gm dz) ?_) k) dX1_exchangeNotes_47
      · rw [exchM, if_pos (by simp only [nz, c_4, c_11, ↓reduceIte, Bool.true_or, Bool.or_true])]
        simp only [sset_eq, sset_sset, sset_ne _ _ ((ne4 (Ne.symm hne)) : ((9, b, e, d2) : KN) ≠ (9, b, e, d)), sset_ne _ _ ((nek (by decide)) : ((15, b, e, d) : KN) ≠ (9, b, e, d)), sset_ne _ _ ((nek (by decide)) : ((15, b, e, d2) : KN) ≠ (9, b, e, d)), sset_ne _ _ ((nek (by decide)) : ((15, b, e, d) : KN) ≠ (9, b, e, d2)), sset_ne _ _ ((nek (by decide)) : ((15, b, e, d2) : KN) ≠ (9, b, e, d2)), sset_ne _ _ ((ne4 (Ne.symm hne)) : ((15, b, e, d2) : KN) ≠ (15, b, e, d))]
        rfl
    · skip
      refine x_vret X h hr (fun k _ => congrFun (congrArg (lay tc ad gm dz) ?_) k) dX1_exchangeNotes_14
      · simp only [exchM, nz, c_4, c_11, ↓reduceIte, Bool.or_self, Bool.false_eq_true]
