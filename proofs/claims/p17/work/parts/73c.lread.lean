set_option maxHeartbeats 4000000 in
set_option maxRecDepth 100000 in
theorem m_L_isCovered {l : Launch} {D : va_G} {tc : TC} {dz : Nat} {ad : KN → Nat} {Ks : List KN} {gm : GM} (Y : Mem) (hL : LV gm Ks) (hB : BR Y) (n m t : Nat) (hN : NR Y n m t) (hn2 : n ≤ 2) (hm10 : m ≤ 10) (ht9 : t ≤ 2000) (d e : Nat) (hd : d < 6) (he : e < 2) : MI l yL_isCovered cL_isCovered 11 (Option.some ClassFile.FieldType.boolean) 2 D tc dz ad Ks (lay tc ad gm dz (LL Y)) [.ref (ad (35, 0, 0, 0)), .ref (ad (41, 0, 0, 0)), .ref (ad (42, 0, 0, 0)), .ref (ad (40, 0, 0, 0)), .ref (ad (45, 0, 0, 0)), .int (nI d), .int (nI e)] (bI (cvt Y d e m)) (lay tc ad gm dz (LL Y)) := by
  intro sz
  have hg0 : LL Y (45, 0, 0, 0) 0 = nI n := gc_0.trans hN.1
  have hg1 : LL Y (45, 0, 0, 0) 1 = nI t := gc_1.trans hN.2.1
  have hg2 : LL Y (45, 0, 0, 0) 2 = nI m := gc_2.trans hN.2.2
  refine x_ofW (by decide +kernel) (Nat.le_of_ble_eq_true rfl) (fun pp ee s mm bel meth cd ls X hr hin hz h hl => ?_)
  subst hz
  obtain ⟨hx, hb, hmaxL, hown, hts⟩ := id X.1
  have hl : lv_has ls 11 [(0, .ref (ad (35, 0, 0, 0))), (1, .ref (ad (41, 0, 0, 0))), (2, .ref (ad (42, 0, 0, 0))), (3, .ref (ad (40, 0, 0, 0))), (4, .ref (ad (45, 0, 0, 0))), (5, .int (nI d)), (6, .int (nI e))] := hl
  refine lv_iconst (v := nI 0) hx hb dL_isCovered_0 (by decide) ?_
  refine lv_istore (lv' := [(7, .int (nI 0)), (0, .ref (ad (35, 0, 0, 0))), (1, .ref (ad (41, 0, 0, 0))), (2, .ref (ad (42, 0, 0, 0))), (3, .ref (ad (40, 0, 0, 0))), (4, .ref (ad (45, 0, 0, 0))), (5, .int (nI d)), (6, .int (nI e))]) hx hb dL_isCovered_1 hl (by decide) rfl (fun ls hl => ?_)
  refine lv_iconst (v := nI 0) hx hb dL_isCovered_3 (by decide) ?_
  refine lv_istore (lv' := [(8, .int (nI 0)), (7, .int (nI 0)), (0, .ref (ad (35, 0, 0, 0))), (1, .ref (ad (41, 0, 0, 0))), (2, .ref (ad (42, 0, 0, 0))), (3, .ref (ad (40, 0, 0, 0))), (4, .ref (ad (45, 0, 0, 0))), (5, .int (nI d)), (6, .int (nI e))]) hx hb dL_isCovered_4 hl (by decide) rfl (fun ls hl => ?_)
  refine y_loop (D := D) (A := wA ad Ks s.heap.size) (ad := ad) (Ks := Ks) (nL := 11) (fun k : Nat => lay tc ad gm dz (LL Y)) (fun k => [(8, .int (nI k)), (7, .int (bI (anyB (cvQ Y d e) k))), (0, .ref (ad (35, 0, 0, 0))), (1, .ref (ad (41, 0, 0, 0))), (2, .ref (ad (42, 0, 0, 0))), (3, .ref (ad (40, 0, 0, 0))), (4, .ref (ad (45, 0, 0, 0))), (5, .int (nI d)), (6, .int (nI e))]) (fun _ => []) (fun k : Nat => k ≤ m) (fun k => m - k) (fun k hi6 ih6 H locs ls h hl => ?_) 0 (Nat.zero_le _) (h.eq (congrArg (lay tc ad gm dz) rfl)) (lv_sub hl [0, 1, 2, 3, 4, 5, 6, 7, 8] rfl) rfl
  have h : Sx D (wA ad Ks s.heap.size) ad Ks (lay tc ad gm dz (LL Y)) s H locs := h
  have hl : lv_has ls 11 [(8, .int (nI k)), (7, .int (bI (anyB (cvQ Y d e) k))), (0, .ref (ad (35, 0, 0, 0))), (1, .ref (ad (41, 0, 0, 0))), (2, .ref (ad (42, 0, 0, 0))), (3, .ref (ad (40, 0, 0, 0))), (4, .ref (ad (45, 0, 0, 0))), (5, .int (nI d)), (6, .int (nI e))] := hl
  refine lv_iload hx hb dL_isCovered_6 (lv_at hl 0 rfl) ?_
  refine lv_aload hx hb dL_isCovered_8 (lv_at hl 6 rfl) ?_
  refine lv_iconst (v := nI 2) hx hb dL_isCovered_10 (by decide) ?_
  refine y_ald X h (fun _ => rfl) (by decide) (hL (45, 0, 0, 0) ⟨by decide, rfl, rfl, rfl⟩) (by omega) (v := nI m) hg2 dL_isCovered_11 ?_
  refine n_icmp_ge (tgt := 120) hx hb (by omega) (by omega) dL_isCovered_12 (by decide) (fun c_12 => ?_) (fun c_12 => ?_)
  · skip
    obtain rfl : k = m := by omega
    refine lv_iload hx hb dL_isCovered_120 (lv_at hl 1 rfl) ?_
    exact x_iret X h hr (bI_nar _) rfl (fun _ _ => rfl) dL_isCovered_122
  · skip
    refine lv_aload_n hx hb dL_isCovered_15 rfl (lv_at hl 5 rfl) ?_
    refine lv_iload hx hb dL_isCovered_16 (lv_at hl 0 rfl) ?_
    refine y_ald X h (fun _ => rfl) (by decide) (hL (40, 0, 0, 0) ⟨by decide, rfl, rfl, rfl⟩) (by omega) (v := Y (40, 0, 0, 0) k) (congrFun (LL_see (by decide)) _) dL_isCovered_18 ?_
    refine lv_iload hx hb dL_isCovered_19 (lv_at hl 8 rfl) ?_
    refine lv_icmp_ne (tgt := 41) hx hb dL_isCovered_21 (by decide) (fun c_21 => ?_) (fun c_21 => ?_)
    · skip
      have hq : (mo Y e k && (kmk Y d k && allB (fun fq => cvr (rw6 (Y (41, 0, 0, 0)) (24 * k + 6 * fq)) (rw6 (Y (35, 0, 0, 0)) (24 * (10 * d + e) + 6 * fq))) 0)) = false := by rw [mo_f c_21, Bool.false_and]
      refine lv_iconst (v := nI 0) hx hb dL_isCovered_41 (by decide) ?_
      rw [lb_f hq]
      refine lv_istore (lv' := [(9, .int (bI (mo Y e k && (kmk Y d k && allB (fun fq => cvr (rw6 (Y (41, 0, 0, 0)) (24 * k + 6 * fq)) (rw6 (Y (35, 0, 0, 0)) (24 * (10 * d + e) + 6 * fq))) 0)))), (8, .int (nI k)), (7, .int (bI (anyB (cvQ Y d e) k))), (0, .ref (ad (35, 0, 0, 0))), (1, .ref (ad (41, 0, 0, 0))), (2, .ref (ad (42, 0, 0, 0))), (3, .ref (ad (40, 0, 0, 0))), (4, .ref (ad (45, 0, 0, 0))), (5, .int (nI d)), (6, .int (nI e))]) hx hb dL_isCovered_42 hl (by decide) rfl (fun ls hl => ?_)
      refine lv_iconst (v := nI 0) hx hb dL_isCovered_44 (by decide) ?_
      refine lv_istore (lv' := [(10, .int (nI 0)), (9, .int (bI (mo Y e k && (kmk Y d k && allB (fun fq => cvr (rw6 (Y (41, 0, 0, 0)) (24 * k + 6 * fq)) (rw6 (Y (35, 0, 0, 0)) (24 * (10 * d + e) + 6 * fq))) 0)))), (8, .int (nI k)), (7, .int (bI (anyB (cvQ Y d e) k))), (0, .ref (ad (35, 0, 0, 0))), (1, .ref (ad (41, 0, 0, 0))), (2, .ref (ad (42, 0, 0, 0))), (3, .ref (ad (40, 0, 0, 0))), (4, .ref (ad (45, 0, 0, 0))), (5, .int (nI d)), (6, .int (nI e))]) hx hb dL_isCovered_45 hl (by decide) rfl (fun ls hl => ?_)
      refine y_loop (D := D) (A := wA ad Ks s.heap.size) (ad := ad) (Ks := Ks) (nL := 11) (fun f : Nat => lay tc ad gm dz (LL Y)) (fun f => [(10, .int (nI f)), (9, .int (bI (mo Y e k && (kmk Y d k && allB (fun fq => cvr (rw6 (Y (41, 0, 0, 0)) (24 * k + 6 * fq)) (rw6 (Y (35, 0, 0, 0)) (24 * (10 * d + e) + 6 * fq))) f)))), (8, .int (nI k)), (7, .int (bI (anyB (cvQ Y d e) k))), (0, .ref (ad (35, 0, 0, 0))), (1, .ref (ad (41, 0, 0, 0))), (2, .ref (ad (42, 0, 0, 0))), (3, .ref (ad (40, 0, 0, 0))), (4, .ref (ad (45, 0, 0, 0))), (5, .int (nI d)), (6, .int (nI e))]) (fun _ => []) (fun f : Nat => f ≤ 4) (fun f => 4 - f) (fun f hi47 ih47 H locs ls h hl => ?_) 0 (Nat.zero_le _) (h.eq (congrArg (lay tc ad gm dz) rfl)) (lv_sub hl [0, 1, 2, 3, 4, 5, 6, 7, 8, 9, 10] rfl) rfl
      have h : Sx D (wA ad Ks s.heap.size) ad Ks (lay tc ad gm dz (LL Y)) s H locs := h
      have hl : lv_has ls 11 [(10, .int (nI f)), (9, .int (bI (mo Y e k && (kmk Y d k && allB (fun fq => cvr (rw6 (Y (41, 0, 0, 0)) (24 * k + 6 * fq)) (rw6 (Y (35, 0, 0, 0)) (24 * (10 * d + e) + 6 * fq))) f)))), (8, .int (nI k)), (7, .int (bI (anyB (cvQ Y d e) k))), (0, .ref (ad (35, 0, 0, 0))), (1, .ref (ad (41, 0, 0, 0))), (2, .ref (ad (42, 0, 0, 0))), (3, .ref (ad (40, 0, 0, 0))), (4, .ref (ad (45, 0, 0, 0))), (5, .int (nI d)), (6, .int (nI e))] := hl
      refine lv_iload hx hb dL_isCovered_47 (lv_at hl 0 rfl) ?_
      refine lv_iconst (v := nI 4) hx hb dL_isCovered_49 (by decide) ?_
      refine n_icmp_ge (tgt := 97) hx hb (by omega) (by omega) dL_isCovered_50 (by decide) (fun c_50 => ?_) (fun c_50 => ?_)
      · skip
        have him : 4 = f := by omega
        subst him
        refine lv_iload hx hb dL_isCovered_97 (lv_at hl 3 rfl) ?_
        refine b_if_ne (tgt := 107) hx hb dL_isCovered_99 (by decide) (fun c_99 => ?_) (fun c_99 => ?_)
        · skip
          have hq : anyB (cvQ Y d e) (k + 1) = true := by rw [anyB, c_99, Bool.true_or]
          refine lv_iconst (v := nI 1) hx hb dL_isCovered_107 (by decide) ?_
          refine lv_goto (tgt := 112) hx hb dL_isCovered_108 (by decide) ?_
          rw [lb_t hq]
          refine lv_istore (lv' := [(7, .int (bI (anyB (cvQ Y d e) (k + 1)))), (10, .int (nI 4)), (9, .int (bI (mo Y e k && (kmk Y d k && allB (fun fq => cvr (rw6 (Y (41, 0, 0, 0)) (24 * k + 6 * fq)) (rw6 (Y (35, 0, 0, 0)) (24 * (10 * d + e) + 6 * fq))) 4)))), (8, .int (nI k)), (0, .ref (ad (35, 0, 0, 0))), (1, .ref (ad (41, 0, 0, 0))), (2, .ref (ad (42, 0, 0, 0))), (3, .ref (ad (40, 0, 0, 0))), (4, .ref (ad (45, 0, 0, 0))), (5, .int (nI d)), (6, .int (nI e))]) hx hb dL_isCovered_112 hl (by decide) rfl (fun ls hl => ?_)
          refine n_iinc (j := k) (n := 1) (lv' := [(8, .int (nI (k + 1))), (7, .int (bI (anyB (cvQ Y d e) (k + 1)))), (10, .int (nI 4)), (9, .int (bI (mo Y e k && (kmk Y d k && allB (fun fq => cvr (rw6 (Y (41, 0, 0, 0)) (24 * k + 6 * fq)) (rw6 (Y (35, 0, 0, 0)) (24 * (10 * d + e) + 6 * fq))) 4)))), (0, .ref (ad (35, 0, 0, 0))), (1, .ref (ad (41, 0, 0, 0))), (2, .ref (ad (42, 0, 0, 0))), (3, .ref (ad (40, 0, 0, 0))), (4, .ref (ad (45, 0, 0, 0))), (5, .int (nI d)), (6, .int (nI e))]) hx hb dL_isCovered_114 hl (k := 3) rfl (by decide) (by decide) rfl (fun ls hl => ?_)
          refine lv_goto (tgt := 6) hx hb dL_isCovered_117 (by decide) ?_
          exact ih6 (k + 1) (by omega) (by omega) H locs ls (h.eq (congrArg (lay tc ad gm dz) rfl)) (lv_sub hl [0, 1, 4, 5, 6, 7, 8, 9, 10] rfl)
        · skip
          refine lv_iload hx hb dL_isCovered_102 (lv_at hl 1 rfl) ?_
          refine b_if_eq (tgt := 111) hx hb dL_isCovered_104 (by decide) (fun c_104 => ?_) (fun c_104 => ?_)
          · skip
            have hq : anyB (cvQ Y d e) (k + 1) = false := by rw [anyB, c_99, Bool.false_or]; exact (congrArg (mo Y e k && ·) (congrArg (kmk Y d k && ·) (cvm_f Y k d e))).trans c_104
            refine lv_iconst (v := nI 0) hx hb dL_isCovered_111 (by decide) ?_
            rw [lb_f hq]
            refine lv_istore (lv' := [(7, .int (bI (anyB (cvQ Y d e) (k + 1)))), (10, .int (nI 4)), (9, .int (bI (mo Y e k && (kmk Y d k && allB (fun fq => cvr (rw6 (Y (41, 0, 0, 0)) (24 * k + 6 * fq)) (rw6 (Y (35, 0, 0, 0)) (24 * (10 * d + e) + 6 * fq))) 4)))), (8, .int (nI k)), (0, .ref (ad (35, 0, 0, 0))), (1, .ref (ad (41, 0, 0, 0))), (2, .ref (ad (42, 0, 0, 0))), (3, .ref (ad (40, 0, 0, 0))), (4, .ref (ad (45, 0, 0, 0))), (5, .int (nI d)), (6, .int (nI e))]) hx hb dL_isCovered_112 hl (by decide) rfl (fun ls hl => ?_)
            refine n_iinc (j := k) (n := 1) (lv' := [(8, .int (nI (k + 1))), (7, .int (bI (anyB (cvQ Y d e) (k + 1)))), (10, .int (nI 4)), (9, .int (bI (mo Y e k && (kmk Y d k && allB (fun fq => cvr (rw6 (Y (41, 0, 0, 0)) (24 * k + 6 * fq)) (rw6 (Y (35, 0, 0, 0)) (24 * (10 * d + e) + 6 * fq))) 4)))), (0, .ref (ad (35, 0, 0, 0))), (1, .ref (ad (41, 0, 0, 0))), (2, .ref (ad (42, 0, 0, 0))), (3, .ref (ad (40, 0, 0, 0))), (4, .ref (ad (45, 0, 0, 0))), (5, .int (nI d)), (6, .int (nI e))]) hx hb dL_isCovered_114 hl (k := 3) rfl (by decide) (by decide) rfl (fun ls hl => ?_)
            refine lv_goto (tgt := 6) hx hb dL_isCovered_117 (by decide) ?_
            exact ih6 (k + 1) (by omega) (by omega) H locs ls (h.eq (congrArg (lay tc ad gm dz) rfl)) (lv_sub hl [0, 1, 4, 5, 6, 7, 8, 9, 10] rfl)
          · skip
            have hq : anyB (cvQ Y d e) (k + 1) = true := by rw [anyB, c_99, Bool.false_or]; exact (congrArg (mo Y e k && ·) (congrArg (kmk Y d k && ·) (cvm_f Y k d e))).trans c_104
            refine lv_iconst (v := nI 1) hx hb dL_isCovered_107 (by decide) ?_
            refine lv_goto (tgt := 112) hx hb dL_isCovered_108 (by decide) ?_
            rw [lb_t hq]
            refine lv_istore (lv' := [(7, .int (bI (anyB (cvQ Y d e) (k + 1)))), (10, .int (nI 4)), (9, .int (bI (mo Y e k && (kmk Y d k && allB (fun fq => cvr (rw6 (Y (41, 0, 0, 0)) (24 * k + 6 * fq)) (rw6 (Y (35, 0, 0, 0)) (24 * (10 * d + e) + 6 * fq))) 4)))), (8, .int (nI k)), (0, .ref (ad (35, 0, 0, 0))), (1, .ref (ad (41, 0, 0, 0))), (2, .ref (ad (42, 0, 0, 0))), (3, .ref (ad (40, 0, 0, 0))), (4, .ref (ad (45, 0, 0, 0))), (5, .int (nI d)), (6, .int (nI e))]) hx hb dL_isCovered_112 hl (by decide) rfl (fun ls hl => ?_)
            refine n_iinc (j := k) (n := 1) (lv' := [(8, .int (nI (k + 1))), (7, .int (bI (anyB (cvQ Y d e) (k + 1)))), (10, .int (nI 4)), (9, .int (bI (mo Y e k && (kmk Y d k && allB (fun fq => cvr (rw6 (Y (41, 0, 0, 0)) (24 * k + 6 * fq)) (rw6 (Y (35, 0, 0, 0)) (24 * (10 * d + e) + 6 * fq))) 4)))), (0, .ref (ad (35, 0, 0, 0))), (1, .ref (ad (41, 0, 0, 0))), (2, .ref (ad (42, 0, 0, 0))), (3, .ref (ad (40, 0, 0, 0))), (4, .ref (ad (45, 0, 0, 0))), (5, .int (nI d)), (6, .int (nI e))]) hx hb dL_isCovered_114 hl (k := 3) rfl (by decide) (by decide) rfl (fun ls hl => ?_)
            refine lv_goto (tgt := 6) hx hb dL_isCovered_117 (by decide) ?_
            exact ih6 (k + 1) (by omega) (by omega) H locs ls (h.eq (congrArg (lay tc ad gm dz) rfl)) (lv_sub hl [0, 1, 4, 5, 6, 7, 8, 9, 10] rfl)
      · skip
        refine lv_iload hx hb dL_isCovered_53 (lv_at hl 1 rfl) ?_
        refine b_if_eq (tgt := 88) hx hb dL_isCovered_55 (by decide) (fun c_55 => ?_) (fun c_55 => ?_)
        · skip
          have hq : (mo Y e k && (kmk Y d k && allB (fun fq => cvr (rw6 (Y (41, 0, 0, 0)) (24 * k + 6 * fq)) (rw6 (Y (35, 0, 0, 0)) (24 * (10 * d + e) + 6 * fq))) (f + 1))) = false := by rw [allB, ← Bool.and_assoc, ← Bool.and_assoc, Bool.and_assoc (mo Y e k), c_55, Bool.false_and]
          refine lv_iconst (v := nI 0) hx hb dL_isCovered_88 (by decide) ?_
          rw [lb_f hq]
          refine lv_istore (lv' := [(9, .int (bI (mo Y e k && (kmk Y d k && allB (fun fq => cvr (rw6 (Y (41, 0, 0, 0)) (24 * k + 6 * fq)) (rw6 (Y (35, 0, 0, 0)) (24 * (10 * d + e) + 6 * fq))) (f + 1))))), (10, .int (nI f)), (8, .int (nI k)), (7, .int (bI (anyB (cvQ Y d e) k))), (0, .ref (ad (35, 0, 0, 0))), (1, .ref (ad (41, 0, 0, 0))), (2, .ref (ad (42, 0, 0, 0))), (3, .ref (ad (40, 0, 0, 0))), (4, .ref (ad (45, 0, 0, 0))), (5, .int (nI d)), (6, .int (nI e))]) hx hb dL_isCovered_89 hl (by decide) rfl (fun ls hl => ?_)
          refine n_iinc (j := f) (n := 1) (lv' := [(10, .int (nI (f + 1))), (9, .int (bI (mo Y e k && (kmk Y d k && allB (fun fq => cvr (rw6 (Y (41, 0, 0, 0)) (24 * k + 6 * fq)) (rw6 (Y (35, 0, 0, 0)) (24 * (10 * d + e) + 6 * fq))) (f + 1))))), (8, .int (nI k)), (7, .int (bI (anyB (cvQ Y d e) k))), (0, .ref (ad (35, 0, 0, 0))), (1, .ref (ad (41, 0, 0, 0))), (2, .ref (ad (42, 0, 0, 0))), (3, .ref (ad (40, 0, 0, 0))), (4, .ref (ad (45, 0, 0, 0))), (5, .int (nI d)), (6, .int (nI e))]) hx hb dL_isCovered_91 hl (k := 1) rfl (by decide) (by decide) rfl (fun ls hl => ?_)
          refine lv_goto (tgt := 47) hx hb dL_isCovered_94 (by decide) ?_
          exact ih47 (f + 1) (by omega) (by omega) H locs ls (h.eq (congrArg (lay tc ad gm dz) rfl)) (lv_sub hl [0, 1, 2, 3, 4, 5, 6, 7, 8, 9, 10] rfl)
        · skip
          refine lv_aload_n hx hb dL_isCovered_58 rfl (lv_at hl 5 rfl) ?_
          refine lv_iconst (v := nI 4) hx hb dL_isCovered_59 (by decide) ?_
          refine lv_iload hx hb dL_isCovered_60 (lv_at hl 2 rfl) ?_
          refine n_imul hx hb dL_isCovered_62 ?_
          refine lv_iload hx hb dL_isCovered_63 (lv_at hl 0 rfl) ?_
          refine n_iadd hx hb dL_isCovered_65 ?_
          refine z_lald X h pkA (fun _ => rfl) (by decide) (hL (41, 0, 0, 0) ⟨by decide, rfl, rfl, rfl⟩) (by omega) (v := pk (rw6 (Y (41, 0, 0, 0)) (24 * k + 6 * f))) ((congrFun (congrArg pkA (LL_see (by decide))) _).trans pkA_at) dL_isCovered_66 ?_
          refine lv_aload_n hx hb dL_isCovered_67 rfl (lv_at hl 4 rfl) ?_
          refine lv_iload hx hb dL_isCovered_68 (lv_at hl 9 rfl) ?_
          refine lv_iload hx hb dL_isCovered_70 (lv_at hl 10 rfl) ?_
          refine lv_iload hx hb dL_isCovered_72 (lv_at hl 0 rfl) ?_
          refine x_doneI X h (x_runS X h (m_L_at (LL Y) d e f _) F_L_at q744 q745 rfl (by decide) (by decide) ⟨Nat.le_refl _, Nat.le_refl _⟩ hl.1 (Nat.le_of_ble_eq_true rfl) dL_isCovered_74 rfl) (fun H locs h => ?_)
          refine z_lald X h pkB (fun _ => rfl) (by decide) (hL (35, 0, 0, 0) ⟨by decide, rfl, rfl, rfl⟩) (by omega) (v := pk (rw6 (Y (35, 0, 0, 0)) (24 * (10 * d + e) + 6 * f))) ((congrFun (congrArg pkB (LL_see (by decide))) _).trans (pkB_at (by omega) (by omega))) dL_isCovered_77 ?_
          refine x_doneI X h (x_runS X h (m_L_covers (LL Y) (rw6 (Y (41, 0, 0, 0)) (24 * k + 6 * f)) (rw6 (Y (35, 0, 0, 0)) (24 * (10 * d + e) + 6 * f)) (fun _ _ => hB.2.2.2 _) (fun _ _ => hB.1 _) _) F_L_covers q747 q748 rfl (by decide) (by decide) ⟨Nat.le_refl _, Nat.le_refl _⟩ hl.1 (Nat.le_of_ble_eq_true rfl) dL_isCovered_78 rfl) (fun H locs h => ?_)
          refine b_if_eq (tgt := 88) hx hb dL_isCovered_81 (by decide) (fun c_81 => ?_) (fun c_81 => ?_)
          · skip
            have hq : (mo Y e k && (kmk Y d k && allB (fun fq => cvr (rw6 (Y (41, 0, 0, 0)) (24 * k + 6 * fq)) (rw6 (Y (35, 0, 0, 0)) (24 * (10 * d + e) + 6 * fq))) (f + 1))) = false := by rw [allB_n (p := fun fq => cvr (rw6 (Y (41, 0, 0, 0)) (24 * k + 6 * fq)) (rw6 (Y (35, 0, 0, 0)) (24 * (10 * d + e) + 6 * fq))) (n := f) c_81, Bool.and_false, Bool.and_false, Bool.and_false]
            refine lv_iconst (v := nI 0) hx hb dL_isCovered_88 (by decide) ?_
            rw [lb_f hq]
            refine lv_istore (lv' := [(9, .int (bI (mo Y e k && (kmk Y d k && allB (fun fq => cvr (rw6 (Y (41, 0, 0, 0)) (24 * k + 6 * fq)) (rw6 (Y (35, 0, 0, 0)) (24 * (10 * d + e) + 6 * fq))) (f + 1))))), (10, .int (nI f)), (8, .int (nI k)), (7, .int (bI (anyB (cvQ Y d e) k))), (0, .ref (ad (35, 0, 0, 0))), (1, .ref (ad (41, 0, 0, 0))), (2, .ref (ad (42, 0, 0, 0))), (3, .ref (ad (40, 0, 0, 0))), (4, .ref (ad (45, 0, 0, 0))), (5, .int (nI d)), (6, .int (nI e))]) hx hb dL_isCovered_89 hl (by decide) rfl (fun ls hl => ?_)
            refine n_iinc (j := f) (n := 1) (lv' := [(10, .int (nI (f + 1))), (9, .int (bI (mo Y e k && (kmk Y d k && allB (fun fq => cvr (rw6 (Y (41, 0, 0, 0)) (24 * k + 6 * fq)) (rw6 (Y (35, 0, 0, 0)) (24 * (10 * d + e) + 6 * fq))) (f + 1))))), (8, .int (nI k)), (7, .int (bI (anyB (cvQ Y d e) k))), (0, .ref (ad (35, 0, 0, 0))), (1, .ref (ad (41, 0, 0, 0))), (2, .ref (ad (42, 0, 0, 0))), (3, .ref (ad (40, 0, 0, 0))), (4, .ref (ad (45, 0, 0, 0))), (5, .int (nI d)), (6, .int (nI e))]) hx hb dL_isCovered_91 hl (k := 1) rfl (by decide) (by decide) rfl (fun ls hl => ?_)
            refine lv_goto (tgt := 47) hx hb dL_isCovered_94 (by decide) ?_
            exact ih47 (f + 1) (by omega) (by omega) H locs ls (h.eq (congrArg (lay tc ad gm dz) rfl)) (lv_sub hl [0, 1, 2, 3, 4, 5, 6, 7, 8, 9, 10] rfl)
          · skip
            have hq : (mo Y e k && (kmk Y d k && allB (fun fq => cvr (rw6 (Y (41, 0, 0, 0)) (24 * k + 6 * fq)) (rw6 (Y (35, 0, 0, 0)) (24 * (10 * d + e) + 6 * fq))) (f + 1))) = true := by rw [allB_n (p := fun fq => cvr (rw6 (Y (41, 0, 0, 0)) (24 * k + 6 * fq)) (rw6 (Y (35, 0, 0, 0)) (24 * (10 * d + e) + 6 * fq))) (n := f) c_81, Bool.and_true]; exact c_55
            refine lv_iconst (v := nI 1) hx hb dL_isCovered_84 (by decide) ?_
            refine lv_goto (tgt := 89) hx hb dL_isCovered_85 (by decide) ?_
            rw [lb_t hq]
            refine lv_istore (lv' := [(9, .int (bI (mo Y e k && (kmk Y d k && allB (fun fq => cvr (rw6 (Y (41, 0, 0, 0)) (24 * k + 6 * fq)) (rw6 (Y (35, 0, 0, 0)) (24 * (10 * d + e) + 6 * fq))) (f + 1))))), (10, .int (nI f)), (8, .int (nI k)), (7, .int (bI (anyB (cvQ Y d e) k))), (0, .ref (ad (35, 0, 0, 0))), (1, .ref (ad (41, 0, 0, 0))), (2, .ref (ad (42, 0, 0, 0))), (3, .ref (ad (40, 0, 0, 0))), (4, .ref (ad (45, 0, 0, 0))), (5, .int (nI d)), (6, .int (nI e))]) hx hb dL_isCovered_89 hl (by decide) rfl (fun ls hl => ?_)
            refine n_iinc (j := f) (n := 1) (lv' := [(10, .int (nI (f + 1))), (9, .int (bI (mo Y e k && (kmk Y d k && allB (fun fq => cvr (rw6 (Y (41, 0, 0, 0)) (24 * k + 6 * fq)) (rw6 (Y (35, 0, 0, 0)) (24 * (10 * d + e) + 6 * fq))) (f + 1))))), (8, .int (nI k)), (7, .int (bI (anyB (cvQ Y d e) k))), (0, .ref (ad (35, 0, 0, 0))), (1, .ref (ad (41, 0, 0, 0))), (2, .ref (ad (42, 0, 0, 0))), (3, .ref (ad (40, 0, 0, 0))), (4, .ref (ad (45, 0, 0, 0))), (5, .int (nI d)), (6, .int (nI e))]) hx hb dL_isCovered_91 hl (k := 1) rfl (by decide) (by decide) rfl (fun ls hl => ?_)
            refine lv_goto (tgt := 47) hx hb dL_isCovered_94 (by decide) ?_
            exact ih47 (f + 1) (by omega) (by omega) H locs ls (h.eq (congrArg (lay tc ad gm dz) rfl)) (lv_sub hl [0, 1, 2, 3, 4, 5, 6, 7, 8, 9, 10] rfl)
    · skip
      refine lv_aload_n hx hb dL_isCovered_24 rfl (lv_at hl 4 rfl) ?_
      refine lv_bipush (v := nI 6) hx hb dL_isCovered_25 (by decide) ?_
      refine lv_iload hx hb dL_isCovered_27 (lv_at hl 0 rfl) ?_
      refine n_imul hx hb dL_isCovered_29 ?_
      refine lv_iload hx hb dL_isCovered_30 (lv_at hl 7 rfl) ?_
      refine n_iadd hx hb dL_isCovered_32 ?_
      refine y_ald X h (fun _ => rfl) (by decide) (hL (42, 0, 0, 0) ⟨by decide, rfl, rfl, rfl⟩) (by omega) (v := Y (42, 0, 0, 0) ((6 * k) + d)) (congrFun (LL_see (by decide)) _) dL_isCovered_33 ?_
      refine lv_if_le (tgt := 41) hx hb dL_isCovered_34 (by decide) (fun c_34 => ?_) (fun c_34 => ?_)
      · skip
        have hq : (mo Y e k && (kmk Y d k && allB (fun fq => cvr (rw6 (Y (41, 0, 0, 0)) (24 * k + 6 * fq)) (rw6 (Y (35, 0, 0, 0)) (24 * (10 * d + e) + 6 * fq))) 0)) = false := by rw [kmk_f c_34, Bool.false_and, Bool.and_false]
        refine lv_iconst (v := nI 0) hx hb dL_isCovered_41 (by decide) ?_
        rw [lb_f hq]
        refine lv_istore (lv' := [(9, .int (bI (mo Y e k && (kmk Y d k && allB (fun fq => cvr (rw6 (Y (41, 0, 0, 0)) (24 * k + 6 * fq)) (rw6 (Y (35, 0, 0, 0)) (24 * (10 * d + e) + 6 * fq))) 0)))), (8, .int (nI k)), (7, .int (bI (anyB (cvQ Y d e) k))), (0, .ref (ad (35, 0, 0, 0))), (1, .ref (ad (41, 0, 0, 0))), (2, .ref (ad (42, 0, 0, 0))), (3, .ref (ad (40, 0, 0, 0))), (4, .ref (ad (45, 0, 0, 0))), (5, .int (nI d)), (6, .int (nI e))]) hx hb dL_isCovered_42 hl (by decide) rfl (fun ls hl => ?_)
        refine lv_iconst (v := nI 0) hx hb dL_isCovered_44 (by decide) ?_
        refine lv_istore (lv' := [(10, .int (nI 0)), (9, .int (bI (mo Y e k && (kmk Y d k && allB (fun fq => cvr (rw6 (Y (41, 0, 0, 0)) (24 * k + 6 * fq)) (rw6 (Y (35, 0, 0, 0)) (24 * (10 * d + e) + 6 * fq))) 0)))), (8, .int (nI k)), (7, .int (bI (anyB (cvQ Y d e) k))), (0, .ref (ad (35, 0, 0, 0))), (1, .ref (ad (41, 0, 0, 0))), (2, .ref (ad (42, 0, 0, 0))), (3, .ref (ad (40, 0, 0, 0))), (4, .ref (ad (45, 0, 0, 0))), (5, .int (nI d)), (6, .int (nI e))]) hx hb dL_isCovered_45 hl (by decide) rfl (fun ls hl => ?_)
        refine y_loop (D := D) (A := wA ad Ks s.heap.size) (ad := ad) (Ks := Ks) (nL := 11) (fun f : Nat => lay tc ad gm dz (LL Y)) (fun f => [(10, .int (nI f)), (9, .int (bI (mo Y e k && (kmk Y d k && allB (fun fq => cvr (rw6 (Y (41, 0, 0, 0)) (24 * k + 6 * fq)) (rw6 (Y (35, 0, 0, 0)) (24 * (10 * d + e) + 6 * fq))) f)))), (8, .int (nI k)), (7, .int (bI (anyB (cvQ Y d e) k))), (0, .ref (ad (35, 0, 0, 0))), (1, .ref (ad (41, 0, 0, 0))), (2, .ref (ad (42, 0, 0, 0))), (3, .ref (ad (40, 0, 0, 0))), (4, .ref (ad (45, 0, 0, 0))), (5, .int (nI d)), (6, .int (nI e))]) (fun _ => []) (fun f : Nat => f ≤ 4) (fun f => 4 - f) (fun f hi47 ih47 H locs ls h hl => ?_) 0 (Nat.zero_le _) (h.eq (congrArg (lay tc ad gm dz) rfl)) (lv_sub hl [0, 1, 2, 3, 4, 5, 6, 7, 8, 9, 10] rfl) rfl
        have h : Sx D (wA ad Ks s.heap.size) ad Ks (lay tc ad gm dz (LL Y)) s H locs := h
        have hl : lv_has ls 11 [(10, .int (nI f)), (9, .int (bI (mo Y e k && (kmk Y d k && allB (fun fq => cvr (rw6 (Y (41, 0, 0, 0)) (24 * k + 6 * fq)) (rw6 (Y (35, 0, 0, 0)) (24 * (10 * d + e) + 6 * fq))) f)))), (8, .int (nI k)), (7, .int (bI (anyB (cvQ Y d e) k))), (0, .ref (ad (35, 0, 0, 0))), (1, .ref (ad (41, 0, 0, 0))), (2, .ref (ad (42, 0, 0, 0))), (3, .ref (ad (40, 0, 0, 0))), (4, .ref (ad (45, 0, 0, 0))), (5, .int (nI d)), (6, .int (nI e))] := hl
        refine lv_iload hx hb dL_isCovered_47 (lv_at hl 0 rfl) ?_
        refine lv_iconst (v := nI 4) hx hb dL_isCovered_49 (by decide) ?_
        refine n_icmp_ge (tgt := 97) hx hb (by omega) (by omega) dL_isCovered_50 (by decide) (fun c_50 => ?_) (fun c_50 => ?_)
        · skip
          have him : 4 = f := by omega
          subst him
          refine lv_iload hx hb dL_isCovered_97 (lv_at hl 3 rfl) ?_
          refine b_if_ne (tgt := 107) hx hb dL_isCovered_99 (by decide) (fun c_99 => ?_) (fun c_99 => ?_)
          · skip
            have hq : anyB (cvQ Y d e) (k + 1) = true := by rw [anyB, c_99, Bool.true_or]
            refine lv_iconst (v := nI 1) hx hb dL_isCovered_107 (by decide) ?_
            refine lv_goto (tgt := 112) hx hb dL_isCovered_108 (by decide) ?_
            rw [lb_t hq]
            refine lv_istore (lv' := [(7, .int (bI (anyB (cvQ Y d e) (k + 1)))), (10, .int (nI 4)), (9, .int (bI (mo Y e k && (kmk Y d k && allB (fun fq => cvr (rw6 (Y (41, 0, 0, 0)) (24 * k + 6 * fq)) (rw6 (Y (35, 0, 0, 0)) (24 * (10 * d + e) + 6 * fq))) 4)))), (8, .int (nI k)), (0, .ref (ad (35, 0, 0, 0))), (1, .ref (ad (41, 0, 0, 0))), (2, .ref (ad (42, 0, 0, 0))), (3, .ref (ad (40, 0, 0, 0))), (4, .ref (ad (45, 0, 0, 0))), (5, .int (nI d)), (6, .int (nI e))]) hx hb dL_isCovered_112 hl (by decide) rfl (fun ls hl => ?_)
            refine n_iinc (j := k) (n := 1) (lv' := [(8, .int (nI (k + 1))), (7, .int (bI (anyB (cvQ Y d e) (k + 1)))), (10, .int (nI 4)), (9, .int (bI (mo Y e k && (kmk Y d k && allB (fun fq => cvr (rw6 (Y (41, 0, 0, 0)) (24 * k + 6 * fq)) (rw6 (Y (35, 0, 0, 0)) (24 * (10 * d + e) + 6 * fq))) 4)))), (0, .ref (ad (35, 0, 0, 0))), (1, .ref (ad (41, 0, 0, 0))), (2, .ref (ad (42, 0, 0, 0))), (3, .ref (ad (40, 0, 0, 0))), (4, .ref (ad (45, 0, 0, 0))), (5, .int (nI d)), (6, .int (nI e))]) hx hb dL_isCovered_114 hl (k := 3) rfl (by decide) (by decide) rfl (fun ls hl => ?_)
            refine lv_goto (tgt := 6) hx hb dL_isCovered_117 (by decide) ?_
            exact ih6 (k + 1) (by omega) (by omega) H locs ls (h.eq (congrArg (lay tc ad gm dz) rfl)) (lv_sub hl [0, 1, 4, 5, 6, 7, 8, 9, 10] rfl)
          · skip
            refine lv_iload hx hb dL_isCovered_102 (lv_at hl 1 rfl) ?_
            refine b_if_eq (tgt := 111) hx hb dL_isCovered_104 (by decide) (fun c_104 => ?_) (fun c_104 => ?_)
            · skip
              have hq : anyB (cvQ Y d e) (k + 1) = false := by rw [anyB, c_99, Bool.false_or]; exact (congrArg (mo Y e k && ·) (congrArg (kmk Y d k && ·) (cvm_f Y k d e))).trans c_104
              refine lv_iconst (v := nI 0) hx hb dL_isCovered_111 (by decide) ?_
              rw [lb_f hq]
              refine lv_istore (lv' := [(7, .int (bI (anyB (cvQ Y d e) (k + 1)))), (10, .int (nI 4)), (9, .int (bI (mo Y e k && (kmk Y d k && allB (fun fq => cvr (rw6 (Y (41, 0, 0, 0)) (24 * k + 6 * fq)) (rw6 (Y (35, 0, 0, 0)) (24 * (10 * d + e) + 6 * fq))) 4)))), (8, .int (nI k)), (0, .ref (ad (35, 0, 0, 0))), (1, .ref (ad (41, 0, 0, 0))), (2, .ref (ad (42, 0, 0, 0))), (3, .ref (ad (40, 0, 0, 0))), (4, .ref (ad (45, 0, 0, 0))), (5, .int (nI d)), (6, .int (nI e))]) hx hb dL_isCovered_112 hl (by decide) rfl (fun ls hl => ?_)
              refine n_iinc (j := k) (n := 1) (lv' := [(8, .int (nI (k + 1))), (7, .int (bI (anyB (cvQ Y d e) (k + 1)))), (10, .int (nI 4)), (9, .int (bI (mo Y e k && (kmk Y d k && allB (fun fq => cvr (rw6 (Y (41, 0, 0, 0)) (24 * k + 6 * fq)) (rw6 (Y (35, 0, 0, 0)) (24 * (10 * d + e) + 6 * fq))) 4)))), (0, .ref (ad (35, 0, 0, 0))), (1, .ref (ad (41, 0, 0, 0))), (2, .ref (ad (42, 0, 0, 0))), (3, .ref (ad (40, 0, 0, 0))), (4, .ref (ad (45, 0, 0, 0))), (5, .int (nI d)), (6, .int (nI e))]) hx hb dL_isCovered_114 hl (k := 3) rfl (by decide) (by decide) rfl (fun ls hl => ?_)
              refine lv_goto (tgt := 6) hx hb dL_isCovered_117 (by decide) ?_
              exact ih6 (k + 1) (by omega) (by omega) H locs ls (h.eq (congrArg (lay tc ad gm dz) rfl)) (lv_sub hl [0, 1, 4, 5, 6, 7, 8, 9, 10] rfl)
            · skip
              have hq : anyB (cvQ Y d e) (k + 1) = true := by rw [anyB, c_99, Bool.false_or]; exact (congrArg (mo Y e k && ·) (congrArg (kmk Y d k && ·) (cvm_f Y k d e))).trans c_104
              refine lv_iconst (v := nI 1) hx hb dL_isCovered_107 (by decide) ?_
              refine lv_goto (tgt := 112) hx hb dL_isCovered_108 (by decide) ?_
              rw [lb_t hq]
              refine lv_istore (lv' := [(7, .int (bI (anyB (cvQ Y d e) (k + 1)))), (10, .int (nI 4)), (9, .int (bI (mo Y e k && (kmk Y d k && allB (fun fq => cvr (rw6 (Y (41, 0, 0, 0)) (24 * k + 6 * fq)) (rw6 (Y (35, 0, 0, 0)) (24 * (10 * d + e) + 6 * fq))) 4)))), (8, .int (nI k)), (0, .ref (ad (35, 0, 0, 0))), (1, .ref (ad (41, 0, 0, 0))), (2, .ref (ad (42, 0, 0, 0))), (3, .ref (ad (40, 0, 0, 0))), (4, .ref (ad (45, 0, 0, 0))), (5, .int (nI d)), (6, .int (nI e))]) hx hb dL_isCovered_112 hl (by decide) rfl (fun ls hl => ?_)
              refine n_iinc (j := k) (n := 1) (lv' := [(8, .int (nI (k + 1))), (7, .int (bI (anyB (cvQ Y d e) (k + 1)))), (10, .int (nI 4)), (9, .int (bI (mo Y e k && (kmk Y d k && allB (fun fq => cvr (rw6 (Y (41, 0, 0, 0)) (24 * k + 6 * fq)) (rw6 (Y (35, 0, 0, 0)) (24 * (10 * d + e) + 6 * fq))) 4)))), (0, .ref (ad (35, 0, 0, 0))), (1, .ref (ad (41, 0, 0, 0))), (2, .ref (ad (42, 0, 0, 0))), (3, .ref (ad (40, 0, 0, 0))), (4, .ref (ad (45, 0, 0, 0))), (5, .int (nI d)), (6, .int (nI e))]) hx hb dL_isCovered_114 hl (k := 3) rfl (by decide) (by decide) rfl (fun ls hl => ?_)
              refine lv_goto (tgt := 6) hx hb dL_isCovered_117 (by decide) ?_
              exact ih6 (k + 1) (by omega) (by omega) H locs ls (h.eq (congrArg (lay tc ad gm dz) rfl)) (lv_sub hl [0, 1, 4, 5, 6, 7, 8, 9, 10] rfl)
        · skip
          refine lv_iload hx hb dL_isCovered_53 (lv_at hl 1 rfl) ?_
          refine b_if_eq (tgt := 88) hx hb dL_isCovered_55 (by decide) (fun c_55 => ?_) (fun c_55 => ?_)
          · skip
            have hq : (mo Y e k && (kmk Y d k && allB (fun fq => cvr (rw6 (Y (41, 0, 0, 0)) (24 * k + 6 * fq)) (rw6 (Y (35, 0, 0, 0)) (24 * (10 * d + e) + 6 * fq))) (f + 1))) = false := by rw [allB, ← Bool.and_assoc, ← Bool.and_assoc, Bool.and_assoc (mo Y e k), c_55, Bool.false_and]
            refine lv_iconst (v := nI 0) hx hb dL_isCovered_88 (by decide) ?_
            rw [lb_f hq]
            refine lv_istore (lv' := [(9, .int (bI (mo Y e k && (kmk Y d k && allB (fun fq => cvr (rw6 (Y (41, 0, 0, 0)) (24 * k + 6 * fq)) (rw6 (Y (35, 0, 0, 0)) (24 * (10 * d + e) + 6 * fq))) (f + 1))))), (10, .int (nI f)), (8, .int (nI k)), (7, .int (bI (anyB (cvQ Y d e) k))), (0, .ref (ad (35, 0, 0, 0))), (1, .ref (ad (41, 0, 0, 0))), (2, .ref (ad (42, 0, 0, 0))), (3, .ref (ad (40, 0, 0, 0))), (4, .ref (ad (45, 0, 0, 0))), (5, .int (nI d)), (6, .int (nI e))]) hx hb dL_isCovered_89 hl (by decide) rfl (fun ls hl => ?_)
            refine n_iinc (j := f) (n := 1) (lv' := [(10, .int (nI (f + 1))), (9, .int (bI (mo Y e k && (kmk Y d k && allB (fun fq => cvr (rw6 (Y (41, 0, 0, 0)) (24 * k + 6 * fq)) (rw6 (Y (35, 0, 0, 0)) (24 * (10 * d + e) + 6 * fq))) (f + 1))))), (8, .int (nI k)), (7, .int (bI (anyB (cvQ Y d e) k))), (0, .ref (ad (35, 0, 0, 0))), (1, .ref (ad (41, 0, 0, 0))), (2, .ref (ad (42, 0, 0, 0))), (3, .ref (ad (40, 0, 0, 0))), (4, .ref (ad (45, 0, 0, 0))), (5, .int (nI d)), (6, .int (nI e))]) hx hb dL_isCovered_91 hl (k := 1) rfl (by decide) (by decide) rfl (fun ls hl => ?_)
            refine lv_goto (tgt := 47) hx hb dL_isCovered_94 (by decide) ?_
            exact ih47 (f + 1) (by omega) (by omega) H locs ls (h.eq (congrArg (lay tc ad gm dz) rfl)) (lv_sub hl [0, 1, 2, 3, 4, 5, 6, 7, 8, 9, 10] rfl)
          · skip
            refine lv_aload_n hx hb dL_isCovered_58 rfl (lv_at hl 5 rfl) ?_
            refine lv_iconst (v := nI 4) hx hb dL_isCovered_59 (by decide) ?_
            refine lv_iload hx hb dL_isCovered_60 (lv_at hl 2 rfl) ?_
            refine n_imul hx hb dL_isCovered_62 ?_
            refine lv_iload hx hb dL_isCovered_63 (lv_at hl 0 rfl) ?_
            refine n_iadd hx hb dL_isCovered_65 ?_
            refine z_lald X h pkA (fun _ => rfl) (by decide) (hL (41, 0, 0, 0) ⟨by decide, rfl, rfl, rfl⟩) (by omega) (v := pk (rw6 (Y (41, 0, 0, 0)) (24 * k + 6 * f))) ((congrFun (congrArg pkA (LL_see (by decide))) _).trans pkA_at) dL_isCovered_66 ?_
            refine lv_aload_n hx hb dL_isCovered_67 rfl (lv_at hl 4 rfl) ?_
            refine lv_iload hx hb dL_isCovered_68 (lv_at hl 9 rfl) ?_
            refine lv_iload hx hb dL_isCovered_70 (lv_at hl 10 rfl) ?_
            refine lv_iload hx hb dL_isCovered_72 (lv_at hl 0 rfl) ?_
            refine x_doneI X h (x_runS X h (m_L_at (LL Y) d e f _) F_L_at q744 q745 rfl (by decide) (by decide) ⟨Nat.le_refl _, Nat.le_refl _⟩ hl.1 (Nat.le_of_ble_eq_true rfl) dL_isCovered_74 rfl) (fun H locs h => ?_)
            refine z_lald X h pkB (fun _ => rfl) (by decide) (hL (35, 0, 0, 0) ⟨by decide, rfl, rfl, rfl⟩) (by omega) (v := pk (rw6 (Y (35, 0, 0, 0)) (24 * (10 * d + e) + 6 * f))) ((congrFun (congrArg pkB (LL_see (by decide))) _).trans (pkB_at (by omega) (by omega))) dL_isCovered_77 ?_
            refine x_doneI X h (x_runS X h (m_L_covers (LL Y) (rw6 (Y (41, 0, 0, 0)) (24 * k + 6 * f)) (rw6 (Y (35, 0, 0, 0)) (24 * (10 * d + e) + 6 * f)) (fun _ _ => hB.2.2.2 _) (fun _ _ => hB.1 _) _) F_L_covers q747 q748 rfl (by decide) (by decide) ⟨Nat.le_refl _, Nat.le_refl _⟩ hl.1 (Nat.le_of_ble_eq_true rfl) dL_isCovered_78 rfl) (fun H locs h => ?_)
            refine b_if_eq (tgt := 88) hx hb dL_isCovered_81 (by decide) (fun c_81 => ?_) (fun c_81 => ?_)
            · skip
              have hq : (mo Y e k && (kmk Y d k && allB (fun fq => cvr (rw6 (Y (41, 0, 0, 0)) (24 * k + 6 * fq)) (rw6 (Y (35, 0, 0, 0)) (24 * (10 * d + e) + 6 * fq))) (f + 1))) = false := by rw [allB_n (p := fun fq => cvr (rw6 (Y (41, 0, 0, 0)) (24 * k + 6 * fq)) (rw6 (Y (35, 0, 0, 0)) (24 * (10 * d + e) + 6 * fq))) (n := f) c_81, Bool.and_false, Bool.and_false, Bool.and_false]
              refine lv_iconst (v := nI 0) hx hb dL_isCovered_88 (by decide) ?_
              rw [lb_f hq]
              refine lv_istore (lv' := [(9, .int (bI (mo Y e k && (kmk Y d k && allB (fun fq => cvr (rw6 (Y (41, 0, 0, 0)) (24 * k + 6 * fq)) (rw6 (Y (35, 0, 0, 0)) (24 * (10 * d + e) + 6 * fq))) (f + 1))))), (10, .int (nI f)), (8, .int (nI k)), (7, .int (bI (anyB (cvQ Y d e) k))), (0, .ref (ad (35, 0, 0, 0))), (1, .ref (ad (41, 0, 0, 0))), (2, .ref (ad (42, 0, 0, 0))), (3, .ref (ad (40, 0, 0, 0))), (4, .ref (ad (45, 0, 0, 0))), (5, .int (nI d)), (6, .int (nI e))]) hx hb dL_isCovered_89 hl (by decide) rfl (fun ls hl => ?_)
              refine n_iinc (j := f) (n := 1) (lv' := [(10, .int (nI (f + 1))), (9, .int (bI (mo Y e k && (kmk Y d k && allB (fun fq => cvr (rw6 (Y (41, 0, 0, 0)) (24 * k + 6 * fq)) (rw6 (Y (35, 0, 0, 0)) (24 * (10 * d + e) + 6 * fq))) (f + 1))))), (8, .int (nI k)), (7, .int (bI (anyB (cvQ Y d e) k))), (0, .ref (ad (35, 0, 0, 0))), (1, .ref (ad (41, 0, 0, 0))), (2, .ref (ad (42, 0, 0, 0))), (3, .ref (ad (40, 0, 0, 0))), (4, .ref (ad (45, 0, 0, 0))), (5, .int (nI d)), (6, .int (nI e))]) hx hb dL_isCovered_91 hl (k := 1) rfl (by decide) (by decide) rfl (fun ls hl => ?_)
              refine lv_goto (tgt := 47) hx hb dL_isCovered_94 (by decide) ?_
              exact ih47 (f + 1) (by omega) (by omega) H locs ls (h.eq (congrArg (lay tc ad gm dz) rfl)) (lv_sub hl [0, 1, 2, 3, 4, 5, 6, 7, 8, 9, 10] rfl)
            · skip
              have hq : (mo Y e k && (kmk Y d k && allB (fun fq => cvr (rw6 (Y (41, 0, 0, 0)) (24 * k + 6 * fq)) (rw6 (Y (35, 0, 0, 0)) (24 * (10 * d + e) + 6 * fq))) (f + 1))) = true := by rw [allB_n (p := fun fq => cvr (rw6 (Y (41, 0, 0, 0)) (24 * k + 6 * fq)) (rw6 (Y (35, 0, 0, 0)) (24 * (10 * d + e) + 6 * fq))) (n := f) c_81, Bool.and_true]; exact c_55
              refine lv_iconst (v := nI 1) hx hb dL_isCovered_84 (by decide) ?_
              refine lv_goto (tgt := 89) hx hb dL_isCovered_85 (by decide) ?_
              rw [lb_t hq]
              refine lv_istore (lv' := [(9, .int (bI (mo Y e k && (kmk Y d k && allB (fun fq => cvr (rw6 (Y (41, 0, 0, 0)) (24 * k + 6 * fq)) (rw6 (Y (35, 0, 0, 0)) (24 * (10 * d + e) + 6 * fq))) (f + 1))))), (10, .int (nI f)), (8, .int (nI k)), (7, .int (bI (anyB (cvQ Y d e) k))), (0, .ref (ad (35, 0, 0, 0))), (1, .ref (ad (41, 0, 0, 0))), (2, .ref (ad (42, 0, 0, 0))), (3, .ref (ad (40, 0, 0, 0))), (4, .ref (ad (45, 0, 0, 0))), (5, .int (nI d)), (6, .int (nI e))]) hx hb dL_isCovered_89 hl (by decide) rfl (fun ls hl => ?_)
              refine n_iinc (j := f) (n := 1) (lv' := [(10, .int (nI (f + 1))), (9, .int (bI (mo Y e k && (kmk Y d k && allB (fun fq => cvr (rw6 (Y (41, 0, 0, 0)) (24 * k + 6 * fq)) (rw6 (Y (35, 0, 0, 0)) (24 * (10 * d + e) + 6 * fq))) (f + 1))))), (8, .int (nI k)), (7, .int (bI (anyB (cvQ Y d e) k))), (0, .ref (ad (35, 0, 0, 0))), (1, .ref (ad (41, 0, 0, 0))), (2, .ref (ad (42, 0, 0, 0))), (3, .ref (ad (40, 0, 0, 0))), (4, .ref (ad (45, 0, 0, 0))), (5, .int (nI d)), (6, .int (nI e))]) hx hb dL_isCovered_91 hl (k := 1) rfl (by decide) (by decide) rfl (fun ls hl => ?_)
              refine lv_goto (tgt := 47) hx hb dL_isCovered_94 (by decide) ?_
              exact ih47 (f + 1) (by omega) (by omega) H locs ls (h.eq (congrArg (lay tc ad gm dz) rfl)) (lv_sub hl [0, 1, 2, 3, 4, 5, 6, 7, 8, 9, 10] rfl)
      · skip
        have hq : (mo Y e k && (kmk Y d k && allB (fun fq => cvr (rw6 (Y (41, 0, 0, 0)) (24 * k + 6 * fq)) (rw6 (Y (35, 0, 0, 0)) (24 * (10 * d + e) + 6 * fq))) 0)) = true := by rw [mo_t c_21, kmk_t c_34]; rfl
        refine lv_iconst (v := nI 1) hx hb dL_isCovered_37 (by decide) ?_
        refine lv_goto (tgt := 42) hx hb dL_isCovered_38 (by decide) ?_
        rw [lb_t hq]
        refine lv_istore (lv' := [(9, .int (bI (mo Y e k && (kmk Y d k && allB (fun fq => cvr (rw6 (Y (41, 0, 0, 0)) (24 * k + 6 * fq)) (rw6 (Y (35, 0, 0, 0)) (24 * (10 * d + e) + 6 * fq))) 0)))), (8, .int (nI k)), (7, .int (bI (anyB (cvQ Y d e) k))), (0, .ref (ad (35, 0, 0, 0))), (1, .ref (ad (41, 0, 0, 0))), (2, .ref (ad (42, 0, 0, 0))), (3, .ref (ad (40, 0, 0, 0))), (4, .ref (ad (45, 0, 0, 0))), (5, .int (nI d)), (6, .int (nI e))]) hx hb dL_isCovered_42 hl (by decide) rfl (fun ls hl => ?_)
        refine lv_iconst (v := nI 0) hx hb dL_isCovered_44 (by decide) ?_
        refine lv_istore (lv' := [(10, .int (nI 0)), (9, .int (bI (mo Y e k && (kmk Y d k && allB (fun fq => cvr (rw6 (Y (41, 0, 0, 0)) (24 * k + 6 * fq)) (rw6 (Y (35, 0, 0, 0)) (24 * (10 * d + e) + 6 * fq))) 0)))), (8, .int (nI k)), (7, .int (bI (anyB (cvQ Y d e) k))), (0, .ref (ad (35, 0, 0, 0))), (1, .ref (ad (41, 0, 0, 0))), (2, .ref (ad (42, 0, 0, 0))), (3, .ref (ad (40, 0, 0, 0))), (4, .ref (ad (45, 0, 0, 0))), (5, .int (nI d)), (6, .int (nI e))]) hx hb dL_isCovered_45 hl (by decide) rfl (fun ls hl => ?_)
        refine y_loop (D := D) (A := wA ad Ks s.heap.size) (ad := ad) (Ks := Ks) (nL := 11) (fun f : Nat => lay tc ad gm dz (LL Y)) (fun f => [(10, .int (nI f)), (9, .int (bI (mo Y e k && (kmk Y d k && allB (fun fq => cvr (rw6 (Y (41, 0, 0, 0)) (24 * k + 6 * fq)) (rw6 (Y (35, 0, 0, 0)) (24 * (10 * d + e) + 6 * fq))) f)))), (8, .int (nI k)), (7, .int (bI (anyB (cvQ Y d e) k))), (0, .ref (ad (35, 0, 0, 0))), (1, .ref (ad (41, 0, 0, 0))), (2, .ref (ad (42, 0, 0, 0))), (3, .ref (ad (40, 0, 0, 0))), (4, .ref (ad (45, 0, 0, 0))), (5, .int (nI d)), (6, .int (nI e))]) (fun _ => []) (fun f : Nat => f ≤ 4) (fun f => 4 - f) (fun f hi47 ih47 H locs ls h hl => ?_) 0 (Nat.zero_le _) (h.eq (congrArg (lay tc ad gm dz) rfl)) (lv_sub hl [0, 1, 2, 3, 4, 5, 6, 7, 8, 9, 10] rfl) rfl
        have h : Sx D (wA ad Ks s.heap.size) ad Ks (lay tc ad gm dz (LL Y)) s H locs := h
        have hl : lv_has ls 11 [(10, .int (nI f)), (9, .int (bI (mo Y e k && (kmk Y d k && allB (fun fq => cvr (rw6 (Y (41, 0, 0, 0)) (24 * k + 6 * fq)) (rw6 (Y (35, 0, 0, 0)) (24 * (10 * d + e) + 6 * fq))) f)))), (8, .int (nI k)), (7, .int (bI (anyB (cvQ Y d e) k))), (0, .ref (ad (35, 0, 0, 0))), (1, .ref (ad (41, 0, 0, 0))), (2, .ref (ad (42, 0, 0, 0))), (3, .ref (ad (40, 0, 0, 0))), (4, .ref (ad (45, 0, 0, 0))), (5, .int (nI d)), (6, .int (nI e))] := hl
        refine lv_iload hx hb dL_isCovered_47 (lv_at hl 0 rfl) ?_
        refine lv_iconst (v := nI 4) hx hb dL_isCovered_49 (by decide) ?_
        refine n_icmp_ge (tgt := 97) hx hb (by omega) (by omega) dL_isCovered_50 (by decide) (fun c_50 => ?_) (fun c_50 => ?_)
        · skip
          have him : 4 = f := by omega
          subst him
          refine lv_iload hx hb dL_isCovered_97 (lv_at hl 3 rfl) ?_
          refine b_if_ne (tgt := 107) hx hb dL_isCovered_99 (by decide) (fun c_99 => ?_) (fun c_99 => ?_)
          · skip
            have hq : anyB (cvQ Y d e) (k + 1) = true := by rw [anyB, c_99, Bool.true_or]
            refine lv_iconst (v := nI 1) hx hb dL_isCovered_107 (by decide) ?_
            refine lv_goto (tgt := 112) hx hb dL_isCovered_108 (by decide) ?_
            rw [lb_t hq]
            refine lv_istore (lv' := [(7, .int (bI (anyB (cvQ Y d e) (k + 1)))), (10, .int (nI 4)), (9, .int (bI (mo Y e k && (kmk Y d k && allB (fun fq => cvr (rw6 (Y (41, 0, 0, 0)) (24 * k + 6 * fq)) (rw6 (Y (35, 0, 0, 0)) (24 * (10 * d + e) + 6 * fq))) 4)))), (8, .int (nI k)), (0, .ref (ad (35, 0, 0, 0))), (1, .ref (ad (41, 0, 0, 0))), (2, .ref (ad (42, 0, 0, 0))), (3, .ref (ad (40, 0, 0, 0))), (4, .ref (ad (45, 0, 0, 0))), (5, .int (nI d)), (6, .int (nI e))]) hx hb dL_isCovered_112 hl (by decide) rfl (fun ls hl => ?_)
            refine n_iinc (j := k) (n := 1) (lv' := [(8, .int (nI (k + 1))), (7, .int (bI (anyB (cvQ Y d e) (k + 1)))), (10, .int (nI 4)), (9, .int (bI (mo Y e k && (kmk Y d k && allB (fun fq => cvr (rw6 (Y (41, 0, 0, 0)) (24 * k + 6 * fq)) (rw6 (Y (35, 0, 0, 0)) (24 * (10 * d + e) + 6 * fq))) 4)))), (0, .ref (ad (35, 0, 0, 0))), (1, .ref (ad (41, 0, 0, 0))), (2, .ref (ad (42, 0, 0, 0))), (3, .ref (ad (40, 0, 0, 0))), (4, .ref (ad (45, 0, 0, 0))), (5, .int (nI d)), (6, .int (nI e))]) hx hb dL_isCovered_114 hl (k := 3) rfl (by decide) (by decide) rfl (fun ls hl => ?_)
            refine lv_goto (tgt := 6) hx hb dL_isCovered_117 (by decide) ?_
            exact ih6 (k + 1) (by omega) (by omega) H locs ls (h.eq (congrArg (lay tc ad gm dz) rfl)) (lv_sub hl [0, 1, 4, 5, 6, 7, 8, 9, 10] rfl)
          · skip
            refine lv_iload hx hb dL_isCovered_102 (lv_at hl 1 rfl) ?_
            refine b_if_eq (tgt := 111) hx hb dL_isCovered_104 (by decide) (fun c_104 => ?_) (fun c_104 => ?_)
            · skip
              have hq : anyB (cvQ Y d e) (k + 1) = false := by rw [anyB, c_99, Bool.false_or]; exact (congrArg (mo Y e k && ·) (congrArg (kmk Y d k && ·) (cvm_f Y k d e))).trans c_104
              refine lv_iconst (v := nI 0) hx hb dL_isCovered_111 (by decide) ?_
              rw [lb_f hq]
              refine lv_istore (lv' := [(7, .int (bI (anyB (cvQ Y d e) (k + 1)))), (10, .int (nI 4)), (9, .int (bI (mo Y e k && (kmk Y d k && allB (fun fq => cvr (rw6 (Y (41, 0, 0, 0)) (24 * k + 6 * fq)) (rw6 (Y (35, 0, 0, 0)) (24 * (10 * d + e) + 6 * fq))) 4)))), (8, .int (nI k)), (0, .ref (ad (35, 0, 0, 0))), (1, .ref (ad (41, 0, 0, 0))), (2, .ref (ad (42, 0, 0, 0))), (3, .ref (ad (40, 0, 0, 0))), (4, .ref (ad (45, 0, 0, 0))), (5, .int (nI d)), (6, .int (nI e))]) hx hb dL_isCovered_112 hl (by decide) rfl (fun ls hl => ?_)
              refine n_iinc (j := k) (n := 1) (lv' := [(8, .int (nI (k + 1))), (7, .int (bI (anyB (cvQ Y d e) (k + 1)))), (10, .int (nI 4)), (9, .int (bI (mo Y e k && (kmk Y d k && allB (fun fq => cvr (rw6 (Y (41, 0, 0, 0)) (24 * k + 6 * fq)) (rw6 (Y (35, 0, 0, 0)) (24 * (10 * d + e) + 6 * fq))) 4)))), (0, .ref (ad (35, 0, 0, 0))), (1, .ref (ad (41, 0, 0, 0))), (2, .ref (ad (42, 0, 0, 0))), (3, .ref (ad (40, 0, 0, 0))), (4, .ref (ad (45, 0, 0, 0))), (5, .int (nI d)), (6, .int (nI e))]) hx hb dL_isCovered_114 hl (k := 3) rfl (by decide) (by decide) rfl (fun ls hl => ?_)
              refine lv_goto (tgt := 6) hx hb dL_isCovered_117 (by decide) ?_
              exact ih6 (k + 1) (by omega) (by omega) H locs ls (h.eq (congrArg (lay tc ad gm dz) rfl)) (lv_sub hl [0, 1, 4, 5, 6, 7, 8, 9, 10] rfl)
            · skip
              have hq : anyB (cvQ Y d e) (k + 1) = true := by rw [anyB, c_99, Bool.false_or]; exact (congrArg (mo Y e k && ·) (congrArg (kmk Y d k && ·) (cvm_f Y k d e))).trans c_104
              refine lv_iconst (v := nI 1) hx hb dL_isCovered_107 (by decide) ?_
              refine lv_goto (tgt := 112) hx hb dL_isCovered_108 (by decide) ?_
              rw [lb_t hq]
              refine lv_istore (lv' := [(7, .int (bI (anyB (cvQ Y d e) (k + 1)))), (10, .int (nI 4)), (9, .int (bI (mo Y e k && (kmk Y d k && allB (fun fq => cvr (rw6 (Y (41, 0, 0, 0)) (24 * k + 6 * fq)) (rw6 (Y (35, 0, 0, 0)) (24 * (10 * d + e) + 6 * fq))) 4)))), (8, .int (nI k)), (0, .ref (ad (35, 0, 0, 0))), (1, .ref (ad (41, 0, 0, 0))), (2, .ref (ad (42, 0, 0, 0))), (3, .ref (ad (40, 0, 0, 0))), (4, .ref (ad (45, 0, 0, 0))), (5, .int (nI d)), (6, .int (nI e))]) hx hb dL_isCovered_112 hl (by decide) rfl (fun ls hl => ?_)
              refine n_iinc (j := k) (n := 1) (lv' := [(8, .int (nI (k + 1))), (7, .int (bI (anyB (cvQ Y d e) (k + 1)))), (10, .int (nI 4)), (9, .int (bI (mo Y e k && (kmk Y d k && allB (fun fq => cvr (rw6 (Y (41, 0, 0, 0)) (24 * k + 6 * fq)) (rw6 (Y (35, 0, 0, 0)) (24 * (10 * d + e) + 6 * fq))) 4)))), (0, .ref (ad (35, 0, 0, 0))), (1, .ref (ad (41, 0, 0, 0))), (2, .ref (ad (42, 0, 0, 0))), (3, .ref (ad (40, 0, 0, 0))), (4, .ref (ad (45, 0, 0, 0))), (5, .int (nI d)), (6, .int (nI e))]) hx hb dL_isCovered_114 hl (k := 3) rfl (by decide) (by decide) rfl (fun ls hl => ?_)
              refine lv_goto (tgt := 6) hx hb dL_isCovered_117 (by decide) ?_
              exact ih6 (k + 1) (by omega) (by omega) H locs ls (h.eq (congrArg (lay tc ad gm dz) rfl)) (lv_sub hl [0, 1, 4, 5, 6, 7, 8, 9, 10] rfl)
        · skip
          refine lv_iload hx hb dL_isCovered_53 (lv_at hl 1 rfl) ?_
          refine b_if_eq (tgt := 88) hx hb dL_isCovered_55 (by decide) (fun c_55 => ?_) (fun c_55 => ?_)
          · skip
            have hq : (mo Y e k && (kmk Y d k && allB (fun fq => cvr (rw6 (Y (41, 0, 0, 0)) (24 * k + 6 * fq)) (rw6 (Y (35, 0, 0, 0)) (24 * (10 * d + e) + 6 * fq))) (f + 1))) = false := by rw [allB, ← Bool.and_assoc, ← Bool.and_assoc, Bool.and_assoc (mo Y e k), c_55, Bool.false_and]
            refine lv_iconst (v := nI 0) hx hb dL_isCovered_88 (by decide) ?_
            rw [lb_f hq]
            refine lv_istore (lv' := [(9, .int (bI (mo Y e k && (kmk Y d k && allB (fun fq => cvr (rw6 (Y (41, 0, 0, 0)) (24 * k + 6 * fq)) (rw6 (Y (35, 0, 0, 0)) (24 * (10 * d + e) + 6 * fq))) (f + 1))))), (10, .int (nI f)), (8, .int (nI k)), (7, .int (bI (anyB (cvQ Y d e) k))), (0, .ref (ad (35, 0, 0, 0))), (1, .ref (ad (41, 0, 0, 0))), (2, .ref (ad (42, 0, 0, 0))), (3, .ref (ad (40, 0, 0, 0))), (4, .ref (ad (45, 0, 0, 0))), (5, .int (nI d)), (6, .int (nI e))]) hx hb dL_isCovered_89 hl (by decide) rfl (fun ls hl => ?_)
            refine n_iinc (j := f) (n := 1) (lv' := [(10, .int (nI (f + 1))), (9, .int (bI (mo Y e k && (kmk Y d k && allB (fun fq => cvr (rw6 (Y (41, 0, 0, 0)) (24 * k + 6 * fq)) (rw6 (Y (35, 0, 0, 0)) (24 * (10 * d + e) + 6 * fq))) (f + 1))))), (8, .int (nI k)), (7, .int (bI (anyB (cvQ Y d e) k))), (0, .ref (ad (35, 0, 0, 0))), (1, .ref (ad (41, 0, 0, 0))), (2, .ref (ad (42, 0, 0, 0))), (3, .ref (ad (40, 0, 0, 0))), (4, .ref (ad (45, 0, 0, 0))), (5, .int (nI d)), (6, .int (nI e))]) hx hb dL_isCovered_91 hl (k := 1) rfl (by decide) (by decide) rfl (fun ls hl => ?_)
            refine lv_goto (tgt := 47) hx hb dL_isCovered_94 (by decide) ?_
            exact ih47 (f + 1) (by omega) (by omega) H locs ls (h.eq (congrArg (lay tc ad gm dz) rfl)) (lv_sub hl [0, 1, 2, 3, 4, 5, 6, 7, 8, 9, 10] rfl)
          · skip
            refine lv_aload_n hx hb dL_isCovered_58 rfl (lv_at hl 5 rfl) ?_
            refine lv_iconst (v := nI 4) hx hb dL_isCovered_59 (by decide) ?_
            refine lv_iload hx hb dL_isCovered_60 (lv_at hl 2 rfl) ?_
            refine n_imul hx hb dL_isCovered_62 ?_
            refine lv_iload hx hb dL_isCovered_63 (lv_at hl 0 rfl) ?_
            refine n_iadd hx hb dL_isCovered_65 ?_
            refine z_lald X h pkA (fun _ => rfl) (by decide) (hL (41, 0, 0, 0) ⟨by decide, rfl, rfl, rfl⟩) (by omega) (v := pk (rw6 (Y (41, 0, 0, 0)) (24 * k + 6 * f))) ((congrFun (congrArg pkA (LL_see (by decide))) _).trans pkA_at) dL_isCovered_66 ?_
            refine lv_aload_n hx hb dL_isCovered_67 rfl (lv_at hl 4 rfl) ?_
            refine lv_iload hx hb dL_isCovered_68 (lv_at hl 9 rfl) ?_
            refine lv_iload hx hb dL_isCovered_70 (lv_at hl 10 rfl) ?_
            refine lv_iload hx hb dL_isCovered_72 (lv_at hl 0 rfl) ?_
            refine x_doneI X h (x_runS X h (m_L_at (LL Y) d e f _) F_L_at q744 q745 rfl (by decide) (by decide) ⟨Nat.le_refl _, Nat.le_refl _⟩ hl.1 (Nat.le_of_ble_eq_true rfl) dL_isCovered_74 rfl) (fun H locs h => ?_)
            refine z_lald X h pkB (fun _ => rfl) (by decide) (hL (35, 0, 0, 0) ⟨by decide, rfl, rfl, rfl⟩) (by omega) (v := pk (rw6 (Y (35, 0, 0, 0)) (24 * (10 * d + e) + 6 * f))) ((congrFun (congrArg pkB (LL_see (by decide))) _).trans (pkB_at (by omega) (by omega))) dL_isCovered_77 ?_
            refine x_doneI X h (x_runS X h (m_L_covers (LL Y) (rw6 (Y (41, 0, 0, 0)) (24 * k + 6 * f)) (rw6 (Y (35, 0, 0, 0)) (24 * (10 * d + e) + 6 * f)) (fun _ _ => hB.2.2.2 _) (fun _ _ => hB.1 _) _) F_L_covers q747 q748 rfl (by decide) (by decide) ⟨Nat.le_refl _, Nat.le_refl _⟩ hl.1 (Nat.le_of_ble_eq_true rfl) dL_isCovered_78 rfl) (fun H locs h => ?_)
            refine b_if_eq (tgt := 88) hx hb dL_isCovered_81 (by decide) (fun c_81 => ?_) (fun c_81 => ?_)
            · skip
              have hq : (mo Y e k && (kmk Y d k && allB (fun fq => cvr (rw6 (Y (41, 0, 0, 0)) (24 * k + 6 * fq)) (rw6 (Y (35, 0, 0, 0)) (24 * (10 * d + e) + 6 * fq))) (f + 1))) = false := by rw [allB_n (p := fun fq => cvr (rw6 (Y (41, 0, 0, 0)) (24 * k + 6 * fq)) (rw6 (Y (35, 0, 0, 0)) (24 * (10 * d + e) + 6 * fq))) (n := f) c_81, Bool.and_false, Bool.and_false, Bool.and_false]
              refine lv_iconst (v := nI 0) hx hb dL_isCovered_88 (by decide) ?_
              rw [lb_f hq]
              refine lv_istore (lv' := [(9, .int (bI (mo Y e k && (kmk Y d k && allB (fun fq => cvr (rw6 (Y (41, 0, 0, 0)) (24 * k + 6 * fq)) (rw6 (Y (35, 0, 0, 0)) (24 * (10 * d + e) + 6 * fq))) (f + 1))))), (10, .int (nI f)), (8, .int (nI k)), (7, .int (bI (anyB (cvQ Y d e) k))), (0, .ref (ad (35, 0, 0, 0))), (1, .ref (ad (41, 0, 0, 0))), (2, .ref (ad (42, 0, 0, 0))), (3, .ref (ad (40, 0, 0, 0))), (4, .ref (ad (45, 0, 0, 0))), (5, .int (nI d)), (6, .int (nI e))]) hx hb dL_isCovered_89 hl (by decide) rfl (fun ls hl => ?_)
              refine n_iinc (j := f) (n := 1) (lv' := [(10, .int (nI (f + 1))), (9, .int (bI (mo Y e k && (kmk Y d k && allB (fun fq => cvr (rw6 (Y (41, 0, 0, 0)) (24 * k + 6 * fq)) (rw6 (Y (35, 0, 0, 0)) (24 * (10 * d + e) + 6 * fq))) (f + 1))))), (8, .int (nI k)), (7, .int (bI (anyB (cvQ Y d e) k))), (0, .ref (ad (35, 0, 0, 0))), (1, .ref (ad (41, 0, 0, 0))), (2, .ref (ad (42, 0, 0, 0))), (3, .ref (ad (40, 0, 0, 0))), (4, .ref (ad (45, 0, 0, 0))), (5, .int (nI d)), (6, .int (nI e))]) hx hb dL_isCovered_91 hl (k := 1) rfl (by decide) (by decide) rfl (fun ls hl => ?_)
              refine lv_goto (tgt := 47) hx hb dL_isCovered_94 (by decide) ?_
              exact ih47 (f + 1) (by omega) (by omega) H locs ls (h.eq (congrArg (lay tc ad gm dz) rfl)) (lv_sub hl [0, 1, 2, 3, 4, 5, 6, 7, 8, 9, 10] rfl)
            · skip
              have hq : (mo Y e k && (kmk Y d k && allB (fun fq => cvr (rw6 (Y (41, 0, 0, 0)) (24 * k + 6 * fq)) (rw6 (Y (35, 0, 0, 0)) (24 * (10 * d + e) + 6 * fq))) (f + 1))) = true := by rw [allB_n (p := fun fq => cvr (rw6 (Y (41, 0, 0, 0)) (24 * k + 6 * fq)) (rw6 (Y (35, 0, 0, 0)) (24 * (10 * d + e) + 6 * fq))) (n := f) c_81, Bool.and_true]; exact c_55
              refine lv_iconst (v := nI 1) hx hb dL_isCovered_84 (by decide) ?_
              refine lv_goto (tgt := 89) hx hb dL_isCovered_85 (by decide) ?_
              rw [lb_t hq]
              refine lv_istore (lv' := [(9, .int (bI (mo Y e k && (kmk Y d k && allB (fun fq => cvr (rw6 (Y (41, 0, 0, 0)) (24 * k + 6 * fq)) (rw6 (Y (35, 0, 0, 0)) (24 * (10 * d + e) + 6 * fq))) (f + 1))))), (10, .int (nI f)), (8, .int (nI k)), (7, .int (bI (anyB (cvQ Y d e) k))), (0, .ref (ad (35, 0, 0, 0))), (1, .ref (ad (41, 0, 0, 0))), (2, .ref (ad (42, 0, 0, 0))), (3, .ref (ad (40, 0, 0, 0))), (4, .ref (ad (45, 0, 0, 0))), (5, .int (nI d)), (6, .int (nI e))]) hx hb dL_isCovered_89 hl (by decide) rfl (fun ls hl => ?_)
              refine n_iinc (j := f) (n := 1) (lv' := [(10, .int (nI (f + 1))), (9, .int (bI (mo Y e k && (kmk Y d k && allB (fun fq => cvr (rw6 (Y (41, 0, 0, 0)) (24 * k + 6 * fq)) (rw6 (Y (35, 0, 0, 0)) (24 * (10 * d + e) + 6 * fq))) (f + 1))))), (8, .int (nI k)), (7, .int (bI (anyB (cvQ Y d e) k))), (0, .ref (ad (35, 0, 0, 0))), (1, .ref (ad (41, 0, 0, 0))), (2, .ref (ad (42, 0, 0, 0))), (3, .ref (ad (40, 0, 0, 0))), (4, .ref (ad (45, 0, 0, 0))), (5, .int (nI d)), (6, .int (nI e))]) hx hb dL_isCovered_91 hl (k := 1) rfl (by decide) (by decide) rfl (fun ls hl => ?_)
              refine lv_goto (tgt := 47) hx hb dL_isCovered_94 (by decide) ?_
              exact ih47 (f + 1) (by omega) (by omega) H locs ls (h.eq (congrArg (lay tc ad gm dz) rfl)) (lv_sub hl [0, 1, 2, 3, 4, 5, 6, 7, 8, 9, 10] rfl)
