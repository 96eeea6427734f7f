/-! agreement, as the law does it -/
theorem ag_cmp : ∀ a, a < 9 → ∀ b, b < 9 → Op.cmpValue (FP.fcmp (agF a b) (agF a b)) .l = 0 := by decide +kernel
theorem mst_thr {Z : Mem} {d k m : Nat} : decide (mstR Z d k m = 1) = thr Z d k m := by
  unfold mstR
  by_cases h : Z (34, 0, 0, 0) (10 * d + k) = 0
  · rw [if_pos h]
    unfold thr
    rw [if_pos h]
    rfl
  · rw [if_neg h]
    cases thr Z d k m with
    | true => rw [if_pos rfl]; rfl
    | false =>
      rw [if_neg (by decide)]
      cases cvt Z d k m with
      | true => rw [if_pos rfl]; rfl
      | false => rw [if_neg (by decide)]; rfl
theorem mst_t {Z : Mem} {d k m : Nat} (h : mstR Z d k m = 1) : thr Z d k m = true := by rw [← mst_thr]; exact decide_eq_true h
theorem mst_f {Z : Mem} {d k m : Nat} (h : ¬ mstR Z d k m = 1) : thr Z d k m = false := by rw [← mst_thr]; exact decide_eq_false h
theorem sam_iff {Z : Mem} (hB : BR Z) {d o k f : Nat} : samB Z d o k f = true ↔ pk (rw6 (Z (35, 0, 0, 0)) (24 * (10 * d + k) + 6 * f)) = pk (rw6 (Z (35, 0, 0, 0)) (24 * (10 * o + k) + 6 * f)) := by
  rw [lp_eq (fun _ _ => hB.1 _) (fun _ _ => hB.1 _)]
  unfold samB
  rw [allB_iff]
  constructor
  · intro h j hj
    exact of_decide_eq_true (h j hj)
  · intro h j hj
    exact decide_eq_true (h j hj)
theorem lb_rel0 {I G : Mem} {L : Nat → Nat → Int32 → Int32} {n m t : Nat} {ac mcs : Nat → Nat} (h : Rel I I L n m t ac mcs) (hG : ∀ k : KN, k.1 < 30 → G k = I k) : Rel (LL G) I L n m t ac mcs :=
  rel_congr h (fun k e d hk => lb_see hG (by show k < 30; omega)) (fun _ _ => rfl) (fun _ _ _ => rfl)
set_option maxHeartbeats 4000000 in
set_option maxRecDepth 100000 in
theorem m_L_isPair {l : Launch} {D : va_G} {tc : TC} {dz : Nat} {ad : KN → Nat} {Ks : List KN} {gm : GM} (Y : Mem) (hL : LV gm Ks) (hst : l.stackTraces = false) (hW : LW gm Ks) (hG2 : GM2 gm) (V : Nat → BS) (acts : Nat → Act) (z n m t : Nat) (ac mcs : Nat → Nat) (cn : Nat) (hS : LWS Y gm V acts z n m t ac mcs cn) (hcn : cn < 59) (d o : Nat) (hd : d < 6) (ho : o < 6) : MK l yL_isPair cL_isPair 15 (Option.some ClassFile.FieldType.boolean) 13 420 0 0 D tc dz ad Ks (lay tc ad gm dz (LL Y)) [.ref (ad (0, 0, 0, 0)), .ref (ad (35, 0, 0, 0)), .ref (ad (43, 0, 0, 0)), .ref (ad (44, 0, 0, 0)), .ref (ad (41, 0, 0, 0)), .ref (ad (42, 0, 0, 0)), .ref (ad (40, 0, 0, 0)), .ref (ad (45, 0, 0, 0)), .int (nI d), .int (nI o)] (bI true) (lay tc ad gm dz (LL Y)) := by
  intro sz
  have hok := hS.2.1
  have hn2 := hS.2.2.1
  have hm10 := hS.2.2.2
  have hN := nr_of hS.1.1
  have ht9 : t ≤ 2000 := by have := hS.1.2.2.2.2.2.2.2.2.2.1; omega
  have hBK := lb_bk (G := Y) hS.1 (fun _ _ => rfl)
  have hR9 := lb_rel0 (G := Y) hS.1.1 (fun _ _ => rfl)
  have hgA := magA_le (I := Y) (d := d) (o := o) (m := m)
  have hgS := masA_le (I := Y) (d := d) (o := o) (m := m)
  have heA := fun k => magE_le (I := Y) (d := d) (o := o) (k := k) (m := m)
  have heS := fun k => masE_le (I := Y) (d := d) (o := o) (k := k) (m := m)
  have hgA9 := hgA n
  have hgS9 := hgS n
  refine x_ofW (by decide +kernel) (Nat.le_of_ble_eq_true rfl) (fun pp ee s mm bel meth cd ls X hr hin hz h hl => ?_)
  subst hz
  obtain ⟨hx, hb, hmaxL, hown, hts⟩ := id X.1
  have hl : lv_has ls 15 [(0, .ref (ad (0, 0, 0, 0))), (1, .ref (ad (35, 0, 0, 0))), (2, .ref (ad (43, 0, 0, 0))), (3, .ref (ad (44, 0, 0, 0))), (4, .ref (ad (41, 0, 0, 0))), (5, .ref (ad (42, 0, 0, 0))), (6, .ref (ad (40, 0, 0, 0))), (7, .ref (ad (45, 0, 0, 0))), (8, .int (nI d)), (9, .int (nI o))] := hl
  refine lv_iconst (v := nI 0) hx hb dL_isPair_0 (by decide) ?_
  refine lv_istore (lv' := [(10, .int (nI 0)), (0, .ref (ad (0, 0, 0, 0))), (1, .ref (ad (35, 0, 0, 0))), (2, .ref (ad (43, 0, 0, 0))), (3, .ref (ad (44, 0, 0, 0))), (4, .ref (ad (41, 0, 0, 0))), (5, .ref (ad (42, 0, 0, 0))), (6, .ref (ad (40, 0, 0, 0))), (7, .ref (ad (45, 0, 0, 0))), (8, .int (nI d)), (9, .int (nI o))]) hx hb dL_isPair_1 hl (by decide) rfl (fun ls hl => ?_)
  refine lv_iconst (v := nI 0) hx hb dL_isPair_3 (by decide) ?_
  refine lv_istore (lv' := [(11, .int (nI 0)), (10, .int (nI 0)), (0, .ref (ad (0, 0, 0, 0))), (1, .ref (ad (35, 0, 0, 0))), (2, .ref (ad (43, 0, 0, 0))), (3, .ref (ad (44, 0, 0, 0))), (4, .ref (ad (41, 0, 0, 0))), (5, .ref (ad (42, 0, 0, 0))), (6, .ref (ad (40, 0, 0, 0))), (7, .ref (ad (45, 0, 0, 0))), (8, .int (nI d)), (9, .int (nI o))]) hx hb dL_isPair_4 hl (by decide) rfl (fun ls hl => ?_)
  refine lv_iconst (v := nI 0) hx hb dL_isPair_6 (by decide) ?_
  refine lv_istore (lv' := [(12, .int (nI 0)), (11, .int (nI 0)), (10, .int (nI 0)), (0, .ref (ad (0, 0, 0, 0))), (1, .ref (ad (35, 0, 0, 0))), (2, .ref (ad (43, 0, 0, 0))), (3, .ref (ad (44, 0, 0, 0))), (4, .ref (ad (41, 0, 0, 0))), (5, .ref (ad (42, 0, 0, 0))), (6, .ref (ad (40, 0, 0, 0))), (7, .ref (ad (45, 0, 0, 0))), (8, .int (nI d)), (9, .int (nI o))]) hx hb dL_isPair_7 hl (by decide) rfl (fun ls hl => ?_)
  refine y_loop (D := D) (A := wA ad Ks s.heap.size) (ad := ad) (Ks := Ks) (nL := 15) (fun k : Nat => lay tc ad gm dz (LL Y)) (fun k => [(12, .int (nI k)), (11, .int (nI (masA Y d o m k))), (10, .int (nI (magA Y d o m k))), (0, .ref (ad (0, 0, 0, 0))), (1, .ref (ad (35, 0, 0, 0))), (2, .ref (ad (43, 0, 0, 0))), (3, .ref (ad (44, 0, 0, 0))), (4, .ref (ad (41, 0, 0, 0))), (5, .ref (ad (42, 0, 0, 0))), (6, .ref (ad (40, 0, 0, 0))), (7, .ref (ad (45, 0, 0, 0))), (8, .int (nI d)), (9, .int (nI o))]) (fun _ => []) (fun k : Nat => k ≤ n) (fun k => n - k) (fun k hi9 ih9 H locs ls h hl => ?_) 0 (Nat.zero_le _) (h.eq (congrArg (lay tc ad gm dz) rfl)) (lv_sub hl [0, 1, 2, 3, 4, 5, 6, 7, 8, 9, 10, 11, 12] rfl) rfl
  have h : Sx D (wA ad Ks s.heap.size) ad Ks (lay tc ad gm dz (LL Y)) s H locs := h
  have hl : lv_has ls 15 [(12, .int (nI k)), (11, .int (nI (masA Y d o m k))), (10, .int (nI (magA Y d o m k))), (0, .ref (ad (0, 0, 0, 0))), (1, .ref (ad (35, 0, 0, 0))), (2, .ref (ad (43, 0, 0, 0))), (3, .ref (ad (44, 0, 0, 0))), (4, .ref (ad (41, 0, 0, 0))), (5, .ref (ad (42, 0, 0, 0))), (6, .ref (ad (40, 0, 0, 0))), (7, .ref (ad (45, 0, 0, 0))), (8, .int (nI d)), (9, .int (nI o))] := hl
  refine lv_iload hx hb dL_isPair_9 (lv_at hl 0 rfl) ?_
  refine lv_aload hx hb dL_isPair_11 (lv_at hl 10 rfl) ?_
  refine lv_iconst (v := nI 0) hx hb dL_isPair_13 (by decide) ?_
  refine y_ald X h (fun _ => rfl) (by decide) (hL (45, 0, 0, 0) ⟨by decide, rfl, rfl, rfl⟩) (by omega) (v := nI n) (gc_0.trans hN.1) dL_isPair_14 ?_
  refine n_icmp_ge (tgt := 158) hx hb (by omega) (by omega) dL_isPair_15 (by decide) (fun c_15 => ?_) (fun c_15 => ?_)
  · skip
    have him : k = n := by omega
    rw [him] at hl
    refine lv_aload_n hx hb dL_isPair_158 rfl (lv_at hl 3 rfl) ?_
    refine lv_iload hx hb dL_isPair_159 (lv_at hl 11 rfl) ?_
    refine lv_iload hx hb dL_isPair_161 (lv_at hl 12 rfl) ?_
    refine x_doneF X h (x_runV X h (k := (0, 0, 0, 0)) (m_X6_agreement (LL Y) hL hG2.ok n mcs hBK d o hd ho (magA Y d o m n) (rl_bcm hR9 hd ho n (by omega)) (by omega) _) F_X6_agreement q330 q331 q332 (hL (0, 0, 0, 0) ⟨rfl, rfl, rfl⟩) rfl rfl rfl (Nat.le_of_ble_eq_true rfl) (Nat.le_of_ble_eq_true rfl) ⟨Nat.le_of_ble_eq_true rfl, Nat.le_of_ble_eq_true rfl⟩ hl.1 (Nat.le_of_ble_eq_true rfl) dL_isPair_163 rfl) (fun H locs h => ?_)
    rw [rl_bsm hR9 hd ho n (by omega)]
    refine lv_iload hx hb dL_isPair_166 (lv_at hl 2 rfl) ?_
    refine n_if_ne (tgt := 175) hx hb (by omega) dL_isPair_168 (by decide) (fun c_168 => ?_) (fun c_168 => ?_)
    · skip
      refine lv_iload hx hb dL_isPair_175 (lv_at hl 1 rfl) ?_
      refine lv_i2f hx hb dL_isPair_177 ?_
      refine lv_iload hx hb dL_isPair_178 (lv_at hl 2 rfl) ?_
      refine lv_i2f hx hb dL_isPair_180 ?_
      refine lv_fdiv hx hb dL_isPair_181 (fdiv_n (by omega) (by omega) (by omega)) ?_
      refine lv_fcmp hx hb dL_isPair_182 ?_
      refine lv_if_ne (tgt := 190) hx hb dL_isPair_183 (by decide) (fun c => absurd (show Op.cmpValue (FP.fcmp (agF (masA Y d o m n) (magA Y d o m n)) (FP.fdiv (FP.i2f (nI (masA Y d o m n))) (FP.i2f (nI (magA Y d o m n))))) .l = 0 by rw [show (FP.fdiv (FP.i2f (nI (masA Y d o m n))) (FP.i2f (nI (magA Y d o m n)))) = agF (masA Y d o m n) (magA Y d o m n) from (if_neg (by omega)).symm]; exact ag_cmp _ (by omega) _ (by omega)) c) (fun _ => ?_)
      refine lv_iconst (v := nI 1) hx hb dL_isPair_186 (by decide) ?_
      refine lv_goto (tgt := 191) hx hb dL_isPair_187 (by decide) ?_
      exact x_iret X h hr (by decide) rfl (fun _ _ => rfl) dL_isPair_191
    · skip
      refine lv_fconst1 hx hb dL_isPair_171 ?_
      refine lv_goto (tgt := 182) hx hb dL_isPair_172 (by decide) ?_
      refine lv_fcmp hx hb dL_isPair_182 ?_
      refine lv_if_ne (tgt := 190) hx hb dL_isPair_183 (by decide) (fun c => absurd (show Op.cmpValue (FP.fcmp (agF (masA Y d o m n) (magA Y d o m n)) FP.fconst1) .l = 0 by rw [show FP.fconst1 = agF (masA Y d o m n) (magA Y d o m n) from (if_pos (by omega)).symm]; exact ag_cmp _ (by omega) _ (by omega)) c) (fun _ => ?_)
      refine lv_iconst (v := nI 1) hx hb dL_isPair_186 (by decide) ?_
      refine lv_goto (tgt := 191) hx hb dL_isPair_187 (by decide) ?_
      exact x_iret X h hr (by decide) rfl (fun _ _ => rfl) dL_isPair_191
  · skip
    refine lv_aload_n hx hb dL_isPair_18 rfl (lv_at hl 4 rfl) ?_
    refine lv_aload_n hx hb dL_isPair_19 rfl (lv_at hl 5 rfl) ?_
    refine lv_aload hx hb dL_isPair_20 (lv_at hl 7 rfl) ?_
    refine lv_aload hx hb dL_isPair_22 (lv_at hl 8 rfl) ?_
    refine lv_aload hx hb dL_isPair_24 (lv_at hl 9 rfl) ?_
    refine lv_aload hx hb dL_isPair_26 (lv_at hl 10 rfl) ?_
    refine lv_iload hx hb dL_isPair_28 (lv_at hl 11 rfl) ?_
    refine lv_iload hx hb dL_isPair_30 (lv_at hl 0 rfl) ?_
    refine x_doneI X h (x_runS X h (m_L_state Y hL hok.1 hok.k01 n m t hN hn2 hm10 ht9 d k (by omega) (by omega) _) F_L_state q738 q739 rfl (Nat.le_of_ble_eq_true rfl) (Nat.le_of_ble_eq_true rfl) ⟨Nat.le_of_ble_eq_true rfl, Nat.le_of_ble_eq_true rfl⟩ hl.1 (Nat.le_of_ble_eq_true rfl) dL_isPair_32 rfl) (fun H locs h => ?_)
    have hs3 := mst_le Y d k m
    have hs4 := mst_le Y o k m
    refine lv_iconst (v := nI 1) hx hb dL_isPair_35 (by decide) ?_
    refine n_icmp_eq (tgt := 60) hx hb (by omega) (by omega) dL_isPair_36 (by decide) (fun c_36 => ?_) (fun c_36 => ?_)
    · skip
      have hq : (thr Y d k m || thr Y o k m) = true := by rw [mst_t c_36, Bool.true_or]
      refine lv_iconst (v := nI 1) hx hb dL_isPair_60 (by decide) ?_
      refine lv_goto (tgt := 65) hx hb dL_isPair_61 (by decide) ?_
      rw [lb_t hq]
      refine lv_istore (lv' := [(13, .int (bI (thr Y d k m || thr Y o k m))), (12, .int (nI k)), (11, .int (nI (masA Y d o m k))), (10, .int (nI (magA Y d o m k))), (0, .ref (ad (0, 0, 0, 0))), (1, .ref (ad (35, 0, 0, 0))), (2, .ref (ad (43, 0, 0, 0))), (3, .ref (ad (44, 0, 0, 0))), (4, .ref (ad (41, 0, 0, 0))), (5, .ref (ad (42, 0, 0, 0))), (6, .ref (ad (40, 0, 0, 0))), (7, .ref (ad (45, 0, 0, 0))), (8, .int (nI d)), (9, .int (nI o))]) hx hb dL_isPair_65 hl (by decide) rfl (fun ls hl => ?_)
      have hgAk := hgA k
      have hgSk := hgS k
      refine lv_iconst (v := nI 0) hx hb dL_isPair_67 (by decide) ?_
      refine lv_istore (lv' := [(14, .int (nI 0)), (13, .int (bI (thr Y d k m || thr Y o k m))), (12, .int (nI k)), (11, .int (nI (masA Y d o m k))), (10, .int (nI (magA Y d o m k))), (0, .ref (ad (0, 0, 0, 0))), (1, .ref (ad (35, 0, 0, 0))), (2, .ref (ad (43, 0, 0, 0))), (3, .ref (ad (44, 0, 0, 0))), (4, .ref (ad (41, 0, 0, 0))), (5, .ref (ad (42, 0, 0, 0))), (6, .ref (ad (40, 0, 0, 0))), (7, .ref (ad (45, 0, 0, 0))), (8, .int (nI d)), (9, .int (nI o))]) hx hb dL_isPair_68 hl (by decide) rfl (fun ls hl => ?_)
      refine y_loop (D := D) (A := wA ad Ks s.heap.size) (ad := ad) (Ks := Ks) (nL := 15) (fun f : Nat => lay tc ad gm dz (LL Y)) (fun f => [(14, .int (nI f)), (13, .int (bI (thr Y d k m || thr Y o k m))), (12, .int (nI k)), (11, .int (nI (masA Y d o m k + masE Y d o k m f))), (10, .int (nI (magA Y d o m k + magE Y d o k m f))), (0, .ref (ad (0, 0, 0, 0))), (1, .ref (ad (35, 0, 0, 0))), (2, .ref (ad (43, 0, 0, 0))), (3, .ref (ad (44, 0, 0, 0))), (4, .ref (ad (41, 0, 0, 0))), (5, .ref (ad (42, 0, 0, 0))), (6, .ref (ad (40, 0, 0, 0))), (7, .ref (ad (45, 0, 0, 0))), (8, .int (nI d)), (9, .int (nI o))]) (fun _ => []) (fun f : Nat => f ≤ 4) (fun f => 4 - f) (fun f hi70 ih70 H locs ls h hl => ?_) 0 (Nat.zero_le _) (h.eq (congrArg (lay tc ad gm dz) rfl)) (lv_sub hl [0, 1, 2, 3, 4, 5, 6, 7, 8, 9, 10, 11, 12, 13, 14] rfl) rfl
      have h : Sx D (wA ad Ks s.heap.size) ad Ks (lay tc ad gm dz (LL Y)) s H locs := h
      have hl : lv_has ls 15 [(14, .int (nI f)), (13, .int (bI (thr Y d k m || thr Y o k m))), (12, .int (nI k)), (11, .int (nI (masA Y d o m k + masE Y d o k m f))), (10, .int (nI (magA Y d o m k + magE Y d o k m f))), (0, .ref (ad (0, 0, 0, 0))), (1, .ref (ad (35, 0, 0, 0))), (2, .ref (ad (43, 0, 0, 0))), (3, .ref (ad (44, 0, 0, 0))), (4, .ref (ad (41, 0, 0, 0))), (5, .ref (ad (42, 0, 0, 0))), (6, .ref (ad (40, 0, 0, 0))), (7, .ref (ad (45, 0, 0, 0))), (8, .int (nI d)), (9, .int (nI o))] := hl
      refine lv_iload hx hb dL_isPair_70 (lv_at hl 0 rfl) ?_
      refine lv_iconst (v := nI 4) hx hb dL_isPair_72 (by decide) ?_
      refine n_icmp_ge (tgt := 152) hx hb (by omega) (by omega) dL_isPair_73 (by decide) (fun c_73 => ?_) (fun c_73 => ?_)
      · skip
        have him : f = 4 := by omega
        rw [him] at hl
        have hl : lv_has ls 15 [(12, .int (nI k)), (11, .int (nI (masA Y d o m (k + 1)))), (10, .int (nI (magA Y d o m (k + 1)))), (0, .ref (ad (0, 0, 0, 0))), (1, .ref (ad (35, 0, 0, 0))), (2, .ref (ad (43, 0, 0, 0))), (3, .ref (ad (44, 0, 0, 0))), (4, .ref (ad (41, 0, 0, 0))), (5, .ref (ad (42, 0, 0, 0))), (6, .ref (ad (40, 0, 0, 0))), (7, .ref (ad (45, 0, 0, 0))), (8, .int (nI d)), (9, .int (nI o))] := lv_sub hl [2, 3, 4, 5, 6, 7, 8, 9, 10, 11, 12, 13, 14] rfl
        refine n_iinc (j := k) (n := 1) (lv' := [(12, .int (nI (k + 1))), (11, .int (nI (masA Y d o m (k + 1)))), (10, .int (nI (magA Y d o m (k + 1)))), (0, .ref (ad (0, 0, 0, 0))), (1, .ref (ad (35, 0, 0, 0))), (2, .ref (ad (43, 0, 0, 0))), (3, .ref (ad (44, 0, 0, 0))), (4, .ref (ad (41, 0, 0, 0))), (5, .ref (ad (42, 0, 0, 0))), (6, .ref (ad (40, 0, 0, 0))), (7, .ref (ad (45, 0, 0, 0))), (8, .int (nI d)), (9, .int (nI o))]) hx hb dL_isPair_152 hl (k := 0) rfl (by decide) (by decide) rfl (fun ls hl => ?_)
        refine lv_goto (tgt := 9) hx hb dL_isPair_155 (by decide) ?_
        exact ih9 (k + 1) (by omega) (by omega) H locs ls (h.eq (congrArg (lay tc ad gm dz) rfl)) (lv_sub hl [0, 1, 2, 3, 4, 5, 6, 7, 8, 9, 10, 11, 12] rfl)
      · skip
        have heAf := heA k f
        have heSf := heS k f
        refine lv_iload hx hb dL_isPair_76 (lv_at hl 1 rfl) ?_
        refine b_if_eq (tgt := 146) hx hb dL_isPair_78 (by decide) (fun c_78 => ?_) (fun c_78 => ?_)
        · skip
          have hmp : magP Y d o k m f = false := by unfold magP; rw [c_78, Bool.and_false, Bool.and_false]
          have hA9 : magA Y d o m k + magE Y d o k m f = magA Y d o m k + magE Y d o k m (f + 1) := by rw [magE, hmp, if_neg (by decide), Nat.add_zero]
          have hS9 : masA Y d o m k + masE Y d o k m f = masA Y d o m k + masE Y d o k m (f + 1) := by rw [masE, hmp, Bool.false_and, if_neg (by decide), Nat.add_zero]
          rw [hA9, hS9] at hl
          refine n_iinc (j := f) (n := 1) (lv' := [(14, .int (nI (f + 1))), (13, .int (bI (thr Y d k m || thr Y o k m))), (12, .int (nI k)), (11, .int (nI (masA Y d o m k + masE Y d o k m (f + 1)))), (10, .int (nI (magA Y d o m k + magE Y d o k m (f + 1)))), (0, .ref (ad (0, 0, 0, 0))), (1, .ref (ad (35, 0, 0, 0))), (2, .ref (ad (43, 0, 0, 0))), (3, .ref (ad (44, 0, 0, 0))), (4, .ref (ad (41, 0, 0, 0))), (5, .ref (ad (42, 0, 0, 0))), (6, .ref (ad (40, 0, 0, 0))), (7, .ref (ad (45, 0, 0, 0))), (8, .int (nI d)), (9, .int (nI o))]) hx hb dL_isPair_146 hl (k := 0) rfl (by decide) (by decide) rfl (fun ls hl => ?_)
          refine lv_goto (tgt := 70) hx hb dL_isPair_149 (by decide) ?_
          exact ih70 (f + 1) (by omega) (by omega) H locs ls (h.eq (congrArg (lay tc ad gm dz) rfl)) (lv_sub hl [0, 1, 2, 3, 4, 5, 6, 7, 8, 9, 10, 11, 12, 13, 14] rfl)
        · skip
          refine lv_aload_n hx hb dL_isPair_81 rfl (lv_at hl 8 rfl) ?_
          refine lv_iload hx hb dL_isPair_82 (lv_at hl 13 rfl) ?_
          refine lv_iload hx hb dL_isPair_84 (lv_at hl 2 rfl) ?_
          refine lv_iload hx hb dL_isPair_86 (lv_at hl 0 rfl) ?_
          refine x_doneI X h (x_runS X h (m_L_may Y hL d k (by omega) (by omega) f (by omega) _) F_L_may q766 q767 rfl (Nat.le_of_ble_eq_true rfl) (Nat.le_of_ble_eq_true rfl) ⟨Nat.le_of_ble_eq_true rfl, Nat.le_of_ble_eq_true rfl⟩ hl.1 (Nat.le_of_ble_eq_true rfl) dL_isPair_88 rfl) (fun H locs h => ?_)
          refine b_if_eq (tgt := 146) hx hb dL_isPair_91 (by decide) (fun c_91 => ?_) (fun c_91 => ?_)
          · skip
            have hmp : magP Y d o k m f = false := by unfold magP; rw [c_91, Bool.false_and]
            have hA9 : magA Y d o m k + magE Y d o k m f = magA Y d o m k + magE Y d o k m (f + 1) := by rw [magE, hmp, if_neg (by decide), Nat.add_zero]
            have hS9 : masA Y d o m k + masE Y d o k m f = masA Y d o m k + masE Y d o k m (f + 1) := by rw [masE, hmp, Bool.false_and, if_neg (by decide), Nat.add_zero]
            rw [hA9, hS9] at hl
            refine n_iinc (j := f) (n := 1) (lv' := [(14, .int (nI (f + 1))), (13, .int (bI (thr Y d k m || thr Y o k m))), (12, .int (nI k)), (11, .int (nI (masA Y d o m k + masE Y d o k m (f + 1)))), (10, .int (nI (magA Y d o m k + magE Y d o k m (f + 1)))), (0, .ref (ad (0, 0, 0, 0))), (1, .ref (ad (35, 0, 0, 0))), (2, .ref (ad (43, 0, 0, 0))), (3, .ref (ad (44, 0, 0, 0))), (4, .ref (ad (41, 0, 0, 0))), (5, .ref (ad (42, 0, 0, 0))), (6, .ref (ad (40, 0, 0, 0))), (7, .ref (ad (45, 0, 0, 0))), (8, .int (nI d)), (9, .int (nI o))]) hx hb dL_isPair_146 hl (k := 0) rfl (by decide) (by decide) rfl (fun ls hl => ?_)
            refine lv_goto (tgt := 70) hx hb dL_isPair_149 (by decide) ?_
            exact ih70 (f + 1) (by omega) (by omega) H locs ls (h.eq (congrArg (lay tc ad gm dz) rfl)) (lv_sub hl [0, 1, 2, 3, 4, 5, 6, 7, 8, 9, 10, 11, 12, 13, 14] rfl)
          · skip
            refine lv_aload_n hx hb dL_isPair_94 rfl (lv_at hl 8 rfl) ?_
            refine lv_iload hx hb dL_isPair_95 (lv_at hl 14 rfl) ?_
            refine lv_iload hx hb dL_isPair_97 (lv_at hl 2 rfl) ?_
            refine lv_iload hx hb dL_isPair_99 (lv_at hl 0 rfl) ?_
            refine x_doneI X h (x_runS X h (m_L_may Y hL o k (by omega) (by omega) f (by omega) _) F_L_may q766 q767 rfl (Nat.le_of_ble_eq_true rfl) (Nat.le_of_ble_eq_true rfl) ⟨Nat.le_of_ble_eq_true rfl, Nat.le_of_ble_eq_true rfl⟩ hl.1 (Nat.le_of_ble_eq_true rfl) dL_isPair_101 rfl) (fun H locs h => ?_)
            refine b_if_eq (tgt := 146) hx hb dL_isPair_104 (by decide) (fun c_104 => ?_) (fun c_104 => ?_)
            · skip
              have hmp : magP Y d o k m f = false := by unfold magP; rw [c_104, Bool.false_and, Bool.and_false]
              have hA9 : magA Y d o m k + magE Y d o k m f = magA Y d o m k + magE Y d o k m (f + 1) := by rw [magE, hmp, if_neg (by decide), Nat.add_zero]
              have hS9 : masA Y d o m k + masE Y d o k m f = masA Y d o m k + masE Y d o k m (f + 1) := by rw [masE, hmp, Bool.false_and, if_neg (by decide), Nat.add_zero]
              rw [hA9, hS9] at hl
              refine n_iinc (j := f) (n := 1) (lv' := [(14, .int (nI (f + 1))), (13, .int (bI (thr Y d k m || thr Y o k m))), (12, .int (nI k)), (11, .int (nI (masA Y d o m k + masE Y d o k m (f + 1)))), (10, .int (nI (magA Y d o m k + magE Y d o k m (f + 1)))), (0, .ref (ad (0, 0, 0, 0))), (1, .ref (ad (35, 0, 0, 0))), (2, .ref (ad (43, 0, 0, 0))), (3, .ref (ad (44, 0, 0, 0))), (4, .ref (ad (41, 0, 0, 0))), (5, .ref (ad (42, 0, 0, 0))), (6, .ref (ad (40, 0, 0, 0))), (7, .ref (ad (45, 0, 0, 0))), (8, .int (nI d)), (9, .int (nI o))]) hx hb dL_isPair_146 hl (k := 0) rfl (by decide) (by decide) rfl (fun ls hl => ?_)
              refine lv_goto (tgt := 70) hx hb dL_isPair_149 (by decide) ?_
              exact ih70 (f + 1) (by omega) (by omega) H locs ls (h.eq (congrArg (lay tc ad gm dz) rfl)) (lv_sub hl [0, 1, 2, 3, 4, 5, 6, 7, 8, 9, 10, 11, 12, 13, 14] rfl)
            · skip
              have hmp : magP Y d o k m f = true := by unfold magP; rw [c_78, c_91, c_104]; rfl
              refine n_iinc (j := (magA Y d o m k + magE Y d o k m f)) (n := 1) (lv' := [(10, .int (nI ((magA Y d o m k + magE Y d o k m f) + 1))), (14, .int (nI f)), (13, .int (bI (thr Y d k m || thr Y o k m))), (12, .int (nI k)), (11, .int (nI (masA Y d o m k + masE Y d o k m f))), (0, .ref (ad (0, 0, 0, 0))), (1, .ref (ad (35, 0, 0, 0))), (2, .ref (ad (43, 0, 0, 0))), (3, .ref (ad (44, 0, 0, 0))), (4, .ref (ad (41, 0, 0, 0))), (5, .ref (ad (42, 0, 0, 0))), (6, .ref (ad (40, 0, 0, 0))), (7, .ref (ad (45, 0, 0, 0))), (8, .int (nI d)), (9, .int (nI o))]) hx hb dL_isPair_107 hl (k := 4) rfl (by decide) (by decide) rfl (fun ls hl => ?_)
              refine lv_iload hx hb dL_isPair_110 (lv_at hl 4 rfl) ?_
              refine lv_aload_n hx hb dL_isPair_112 rfl (lv_at hl 6 rfl) ?_
              refine lv_iload hx hb dL_isPair_113 (lv_at hl 13 rfl) ?_
              refine lv_iload hx hb dL_isPair_115 (lv_at hl 3 rfl) ?_
              refine lv_iload hx hb dL_isPair_117 (lv_at hl 1 rfl) ?_
              refine x_doneI X h (x_runS X h (m_L_at (LL Y) d k f _) F_L_at q744 q745 rfl (Nat.le_of_ble_eq_true rfl) (Nat.le_of_ble_eq_true rfl) ⟨Nat.le_of_ble_eq_true rfl, Nat.le_of_ble_eq_true rfl⟩ hl.1 (Nat.le_of_ble_eq_true rfl) dL_isPair_119 rfl) (fun H locs h => ?_)
              refine z_lald X h pkB (fun _ => rfl) (by decide) (hL (35, 0, 0, 0) ⟨by decide, rfl, rfl, rfl⟩) (by omega) (v := pk (rw6 (Y (35, 0, 0, 0)) (24 * (10 * d + k) + 6 * f))) ((congrFun (congrArg pkB (LL_see (by decide))) _).trans (pkB_at (by omega) (by omega))) dL_isPair_122 ?_
              refine lv_aload_n hx hb dL_isPair_123 rfl (lv_at hl 6 rfl) ?_
              refine lv_iload hx hb dL_isPair_124 (lv_at hl 14 rfl) ?_
              refine lv_iload hx hb dL_isPair_126 (lv_at hl 3 rfl) ?_
              refine lv_iload hx hb dL_isPair_128 (lv_at hl 1 rfl) ?_
              refine x_doneI X h (x_runS X h (m_L_at (LL Y) o k f _) F_L_at q744 q745 rfl (Nat.le_of_ble_eq_true rfl) (Nat.le_of_ble_eq_true rfl) ⟨Nat.le_of_ble_eq_true rfl, Nat.le_of_ble_eq_true rfl⟩ hl.1 (Nat.le_of_ble_eq_true rfl) dL_isPair_130 rfl) (fun H locs h => ?_)
              refine z_lald X h pkB (fun _ => rfl) (by decide) (hL (35, 0, 0, 0) ⟨by decide, rfl, rfl, rfl⟩) (by omega) (v := pk (rw6 (Y (35, 0, 0, 0)) (24 * (10 * o + k) + 6 * f))) ((congrFun (congrArg pkB (LL_see (by decide))) _).trans (pkB_at (by omega) (by omega))) dL_isPair_133 ?_
              refine W.lcmp hx hb dL_isPair_134 ?_
              refine lv_if_ne (tgt := 142) hx hb dL_isPair_135 (by decide) (fun c_135 => ?_) (fun c_135 => ?_)
              · skip
                have hsm : samB Y d o k f = false := Bool.eq_false_iff.mpr (fun z => c_135 ((lg_cmp_eq _ _).mpr ((sam_iff hok.1).mp z)))
                refine lv_iconst (v := nI 0) hx hb dL_isPair_142 (by decide) ?_
                refine n_iadd hx hb dL_isPair_143 ?_
                refine lv_istore (lv' := [(11, .int (nI ((masA Y d o m k + masE Y d o k m f) + 0))), (10, .int (nI ((magA Y d o m k + magE Y d o k m f) + 1))), (14, .int (nI f)), (13, .int (bI (thr Y d k m || thr Y o k m))), (12, .int (nI k)), (0, .ref (ad (0, 0, 0, 0))), (1, .ref (ad (35, 0, 0, 0))), (2, .ref (ad (43, 0, 0, 0))), (3, .ref (ad (44, 0, 0, 0))), (4, .ref (ad (41, 0, 0, 0))), (5, .ref (ad (42, 0, 0, 0))), (6, .ref (ad (40, 0, 0, 0))), (7, .ref (ad (45, 0, 0, 0))), (8, .int (nI d)), (9, .int (nI o))]) hx hb dL_isPair_144 hl (by decide) rfl (fun ls hl => ?_)
                have hA9 : (magA Y d o m k + magE Y d o k m f) + 1 = magA Y d o m k + magE Y d o k m (f + 1) := by rw [magE, hmp, if_pos rfl, Nat.add_assoc]
                have hS9 : (masA Y d o m k + masE Y d o k m f) + 0 = masA Y d o m k + masE Y d o k m (f + 1) := by rw [masE, hmp, hsm, Bool.true_and, if_neg (by decide), Nat.add_assoc]
                rw [hA9, hS9] at hl
                refine n_iinc (j := f) (n := 1) (lv' := [(14, .int (nI (f + 1))), (11, .int (nI (masA Y d o m k + masE Y d o k m (f + 1)))), (10, .int (nI (magA Y d o m k + magE Y d o k m (f + 1)))), (13, .int (bI (thr Y d k m || thr Y o k m))), (12, .int (nI k)), (0, .ref (ad (0, 0, 0, 0))), (1, .ref (ad (35, 0, 0, 0))), (2, .ref (ad (43, 0, 0, 0))), (3, .ref (ad (44, 0, 0, 0))), (4, .ref (ad (41, 0, 0, 0))), (5, .ref (ad (42, 0, 0, 0))), (6, .ref (ad (40, 0, 0, 0))), (7, .ref (ad (45, 0, 0, 0))), (8, .int (nI d)), (9, .int (nI o))]) hx hb dL_isPair_146 hl (k := 2) rfl (by decide) (by decide) rfl (fun ls hl => ?_)
                refine lv_goto (tgt := 70) hx hb dL_isPair_149 (by decide) ?_
                exact ih70 (f + 1) (by omega) (by omega) H locs ls (h.eq (congrArg (lay tc ad gm dz) rfl)) (lv_sub hl [0, 3, 4, 1, 2, 5, 6, 7, 8, 9, 10, 11, 12, 13, 14] rfl)
              · skip
                have hsm : samB Y d o k f = true := (sam_iff hok.1).mpr ((lg_cmp_eq _ _).mp c_135)
                refine lv_iconst (v := nI 1) hx hb dL_isPair_138 (by decide) ?_
                refine lv_goto (tgt := 143) hx hb dL_isPair_139 (by decide) ?_
                refine n_iadd hx hb dL_isPair_143 ?_
                refine lv_istore (lv' := [(11, .int (nI ((masA Y d o m k + masE Y d o k m f) + 1))), (10, .int (nI ((magA Y d o m k + magE Y d o k m f) + 1))), (14, .int (nI f)), (13, .int (bI (thr Y d k m || thr Y o k m))), (12, .int (nI k)), (0, .ref (ad (0, 0, 0, 0))), (1, .ref (ad (35, 0, 0, 0))), (2, .ref (ad (43, 0, 0, 0))), (3, .ref (ad (44, 0, 0, 0))), (4, .ref (ad (41, 0, 0, 0))), (5, .ref (ad (42, 0, 0, 0))), (6, .ref (ad (40, 0, 0, 0))), (7, .ref (ad (45, 0, 0, 0))), (8, .int (nI d)), (9, .int (nI o))]) hx hb dL_isPair_144 hl (by decide) rfl (fun ls hl => ?_)
                have hA9 : (magA Y d o m k + magE Y d o k m f) + 1 = magA Y d o m k + magE Y d o k m (f + 1) := by rw [magE, hmp, if_pos rfl, Nat.add_assoc]
                have hS9 : (masA Y d o m k + masE Y d o k m f) + 1 = masA Y d o m k + masE Y d o k m (f + 1) := by rw [masE, hmp, hsm, Bool.true_and, if_pos rfl, Nat.add_assoc]
                rw [hA9, hS9] at hl
                refine n_iinc (j := f) (n := 1) (lv' := [(14, .int (nI (f + 1))), (11, .int (nI (masA Y d o m k + masE Y d o k m (f + 1)))), (10, .int (nI (magA Y d o m k + magE Y d o k m (f + 1)))), (13, .int (bI (thr Y d k m || thr Y o k m))), (12, .int (nI k)), (0, .ref (ad (0, 0, 0, 0))), (1, .ref (ad (35, 0, 0, 0))), (2, .ref (ad (43, 0, 0, 0))), (3, .ref (ad (44, 0, 0, 0))), (4, .ref (ad (41, 0, 0, 0))), (5, .ref (ad (42, 0, 0, 0))), (6, .ref (ad (40, 0, 0, 0))), (7, .ref (ad (45, 0, 0, 0))), (8, .int (nI d)), (9, .int (nI o))]) hx hb dL_isPair_146 hl (k := 2) rfl (by decide) (by decide) rfl (fun ls hl => ?_)
                refine lv_goto (tgt := 70) hx hb dL_isPair_149 (by decide) ?_
                exact ih70 (f + 1) (by omega) (by omega) H locs ls (h.eq (congrArg (lay tc ad gm dz) rfl)) (lv_sub hl [0, 3, 4, 1, 2, 5, 6, 7, 8, 9, 10, 11, 12, 13, 14] rfl)
    · skip
      refine lv_aload_n hx hb dL_isPair_39 rfl (lv_at hl 4 rfl) ?_
      refine lv_aload_n hx hb dL_isPair_40 rfl (lv_at hl 5 rfl) ?_
      refine lv_aload hx hb dL_isPair_41 (lv_at hl 7 rfl) ?_
      refine lv_aload hx hb dL_isPair_43 (lv_at hl 8 rfl) ?_
      refine lv_aload hx hb dL_isPair_45 (lv_at hl 9 rfl) ?_
      refine lv_aload hx hb dL_isPair_47 (lv_at hl 10 rfl) ?_
      refine lv_iload hx hb dL_isPair_49 (lv_at hl 12 rfl) ?_
      refine lv_iload hx hb dL_isPair_51 (lv_at hl 0 rfl) ?_
      refine x_doneI X h (x_runS X h (m_L_state Y hL hok.1 hok.k01 n m t hN hn2 hm10 ht9 o k (by omega) (by omega) _) F_L_state q738 q739 rfl (Nat.le_of_ble_eq_true rfl) (Nat.le_of_ble_eq_true rfl) ⟨Nat.le_of_ble_eq_true rfl, Nat.le_of_ble_eq_true rfl⟩ hl.1 (Nat.le_of_ble_eq_true rfl) dL_isPair_53 rfl) (fun H locs h => ?_)
      refine lv_iconst (v := nI 1) hx hb dL_isPair_56 (by decide) ?_
      refine n_icmp_ne (tgt := 64) hx hb (by omega) (by omega) dL_isPair_57 (by decide) (fun c_57 => ?_) (fun c_57 => ?_)
      · skip
        have hq : (thr Y d k m || thr Y o k m) = false := by rw [mst_f c_36, mst_f c_57]; rfl
        refine lv_iconst (v := nI 0) hx hb dL_isPair_64 (by decide) ?_
        rw [lb_f hq]
        refine lv_istore (lv' := [(13, .int (bI (thr Y d k m || thr Y o k m))), (12, .int (nI k)), (11, .int (nI (masA Y d o m k))), (10, .int (nI (magA Y d o m k))), (0, .ref (ad (0, 0, 0, 0))), (1, .ref (ad (35, 0, 0, 0))), (2, .ref (ad (43, 0, 0, 0))), (3, .ref (ad (44, 0, 0, 0))), (4, .ref (ad (41, 0, 0, 0))), (5, .ref (ad (42, 0, 0, 0))), (6, .ref (ad (40, 0, 0, 0))), (7, .ref (ad (45, 0, 0, 0))), (8, .int (nI d)), (9, .int (nI o))]) hx hb dL_isPair_65 hl (by decide) rfl (fun ls hl => ?_)
        have hgAk := hgA k
        have hgSk := hgS k
        refine lv_iconst (v := nI 0) hx hb dL_isPair_67 (by decide) ?_
        refine lv_istore (lv' := [(14, .int (nI 0)), (13, .int (bI (thr Y d k m || thr Y o k m))), (12, .int (nI k)), (11, .int (nI (masA Y d o m k))), (10, .int (nI (magA Y d o m k))), (0, .ref (ad (0, 0, 0, 0))), (1, .ref (ad (35, 0, 0, 0))), (2, .ref (ad (43, 0, 0, 0))), (3, .ref (ad (44, 0, 0, 0))), (4, .ref (ad (41, 0, 0, 0))), (5, .ref (ad (42, 0, 0, 0))), (6, .ref (ad (40, 0, 0, 0))), (7, .ref (ad (45, 0, 0, 0))), (8, .int (nI d)), (9, .int (nI o))]) hx hb dL_isPair_68 hl (by decide) rfl (fun ls hl => ?_)
        refine y_loop (D := D) (A := wA ad Ks s.heap.size) (ad := ad) (Ks := Ks) (nL := 15) (fun f : Nat => lay tc ad gm dz (LL Y)) (fun f => [(14, .int (nI f)), (13, .int (bI (thr Y d k m || thr Y o k m))), (12, .int (nI k)), (11, .int (nI (masA Y d o m k + masE Y d o k m f))), (10, .int (nI (magA Y d o m k + magE Y d o k m f))), (0, .ref (ad (0, 0, 0, 0))), (1, .ref (ad (35, 0, 0, 0))), (2, .ref (ad (43, 0, 0, 0))), (3, .ref (ad (44, 0, 0, 0))), (4, .ref (ad (41, 0, 0, 0))), (5, .ref (ad (42, 0, 0, 0))), (6, .ref (ad (40, 0, 0, 0))), (7, .ref (ad (45, 0, 0, 0))), (8, .int (nI d)), (9, .int (nI o))]) (fun _ => []) (fun f : Nat => f ≤ 4) (fun f => 4 - f) (fun f hi70 ih70 H locs ls h hl => ?_) 0 (Nat.zero_le _) (h.eq (congrArg (lay tc ad gm dz) rfl)) (lv_sub hl [0, 1, 2, 3, 4, 5, 6, 7, 8, 9, 10, 11, 12, 13, 14] rfl) rfl
        have h : Sx D (wA ad Ks s.heap.size) ad Ks (lay tc ad gm dz (LL Y)) s H locs := h
        have hl : lv_has ls 15 [(14, .int (nI f)), (13, .int (bI (thr Y d k m || thr Y o k m))), (12, .int (nI k)), (11, .int (nI (masA Y d o m k + masE Y d o k m f))), (10, .int (nI (magA Y d o m k + magE Y d o k m f))), (0, .ref (ad (0, 0, 0, 0))), (1, .ref (ad (35, 0, 0, 0))), (2, .ref (ad (43, 0, 0, 0))), (3, .ref (ad (44, 0, 0, 0))), (4, .ref (ad (41, 0, 0, 0))), (5, .ref (ad (42, 0, 0, 0))), (6, .ref (ad (40, 0, 0, 0))), (7, .ref (ad (45, 0, 0, 0))), (8, .int (nI d)), (9, .int (nI o))] := hl
        refine lv_iload hx hb dL_isPair_70 (lv_at hl 0 rfl) ?_
        refine lv_iconst (v := nI 4) hx hb dL_isPair_72 (by decide) ?_
        refine n_icmp_ge (tgt := 152) hx hb (by omega) (by omega) dL_isPair_73 (by decide) (fun c_73 => ?_) (fun c_73 => ?_)
        · skip
          have him : f = 4 := by omega
          rw [him] at hl
          have hl : lv_has ls 15 [(12, .int (nI k)), (11, .int (nI (masA Y d o m (k + 1)))), (10, .int (nI (magA Y d o m (k + 1)))), (0, .ref (ad (0, 0, 0, 0))), (1, .ref (ad (35, 0, 0, 0))), (2, .ref (ad (43, 0, 0, 0))), (3, .ref (ad (44, 0, 0, 0))), (4, .ref (ad (41, 0, 0, 0))), (5, .ref (ad (42, 0, 0, 0))), (6, .ref (ad (40, 0, 0, 0))), (7, .ref (ad (45, 0, 0, 0))), (8, .int (nI d)), (9, .int (nI o))] := lv_sub hl [2, 3, 4, 5, 6, 7, 8, 9, 10, 11, 12, 13, 14] rfl
          refine n_iinc (j := k) (n := 1) (lv' := [(12, .int (nI (k + 1))), (11, .int (nI (masA Y d o m (k + 1)))), (10, .int (nI (magA Y d o m (k + 1)))), (0, .ref (ad (0, 0, 0, 0))), (1, .ref (ad (35, 0, 0, 0))), (2, .ref (ad (43, 0, 0, 0))), (3, .ref (ad (44, 0, 0, 0))), (4, .ref (ad (41, 0, 0, 0))), (5, .ref (ad (42, 0, 0, 0))), (6, .ref (ad (40, 0, 0, 0))), (7, .ref (ad (45, 0, 0, 0))), (8, .int (nI d)), (9, .int (nI o))]) hx hb dL_isPair_152 hl (k := 0) rfl (by decide) (by decide) rfl (fun ls hl => ?_)
          refine lv_goto (tgt := 9) hx hb dL_isPair_155 (by decide) ?_
          exact ih9 (k + 1) (by omega) (by omega) H locs ls (h.eq (congrArg (lay tc ad gm dz) rfl)) (lv_sub hl [0, 1, 2, 3, 4, 5, 6, 7, 8, 9, 10, 11, 12] rfl)
        · skip
          have heAf := heA k f
          have heSf := heS k f
          refine lv_iload hx hb dL_isPair_76 (lv_at hl 1 rfl) ?_
          refine b_if_eq (tgt := 146) hx hb dL_isPair_78 (by decide) (fun c_78 => ?_) (fun c_78 => ?_)
          · skip
            have hmp : magP Y d o k m f = false := by unfold magP; rw [c_78, Bool.and_false, Bool.and_false]
            have hA9 : magA Y d o m k + magE Y d o k m f = magA Y d o m k + magE Y d o k m (f + 1) := by rw [magE, hmp, if_neg (by decide), Nat.add_zero]
            have hS9 : masA Y d o m k + masE Y d o k m f = masA Y d o m k + masE Y d o k m (f + 1) := by rw [masE, hmp, Bool.false_and, if_neg (by decide), Nat.add_zero]
            rw [hA9, hS9] at hl
            refine n_iinc (j := f) (n := 1) (lv' := [(14, .int (nI (f + 1))), (13, .int (bI (thr Y d k m || thr Y o k m))), (12, .int (nI k)), (11, .int (nI (masA Y d o m k + masE Y d o k m (f + 1)))), (10, .int (nI (magA Y d o m k + magE Y d o k m (f + 1)))), (0, .ref (ad (0, 0, 0, 0))), (1, .ref (ad (35, 0, 0, 0))), (2, .ref (ad (43, 0, 0, 0))), (3, .ref (ad (44, 0, 0, 0))), (4, .ref (ad (41, 0, 0, 0))), (5, .ref (ad (42, 0, 0, 0))), (6, .ref (ad (40, 0, 0, 0))), (7, .ref (ad (45, 0, 0, 0))), (8, .int (nI d)), (9, .int (nI o))]) hx hb dL_isPair_146 hl (k := 0) rfl (by decide) (by decide) rfl (fun ls hl => ?_)
            refine lv_goto (tgt := 70) hx hb dL_isPair_149 (by decide) ?_
            exact ih70 (f + 1) (by omega) (by omega) H locs ls (h.eq (congrArg (lay tc ad gm dz) rfl)) (lv_sub hl [0, 1, 2, 3, 4, 5, 6, 7, 8, 9, 10, 11, 12, 13, 14] rfl)
          · skip
            refine lv_aload_n hx hb dL_isPair_81 rfl (lv_at hl 8 rfl) ?_
            refine lv_iload hx hb dL_isPair_82 (lv_at hl 13 rfl) ?_
            refine lv_iload hx hb dL_isPair_84 (lv_at hl 2 rfl) ?_
            refine lv_iload hx hb dL_isPair_86 (lv_at hl 0 rfl) ?_
            refine x_doneI X h (x_runS X h (m_L_may Y hL d k (by omega) (by omega) f (by omega) _) F_L_may q766 q767 rfl (Nat.le_of_ble_eq_true rfl) (Nat.le_of_ble_eq_true rfl) ⟨Nat.le_of_ble_eq_true rfl, Nat.le_of_ble_eq_true rfl⟩ hl.1 (Nat.le_of_ble_eq_true rfl) dL_isPair_88 rfl) (fun H locs h => ?_)
            refine b_if_eq (tgt := 146) hx hb dL_isPair_91 (by decide) (fun c_91 => ?_) (fun c_91 => ?_)
            · skip
              have hmp : magP Y d o k m f = false := by unfold magP; rw [c_91, Bool.false_and]
              have hA9 : magA Y d o m k + magE Y d o k m f = magA Y d o m k + magE Y d o k m (f + 1) := by rw [magE, hmp, if_neg (by decide), Nat.add_zero]
              have hS9 : masA Y d o m k + masE Y d o k m f = masA Y d o m k + masE Y d o k m (f + 1) := by rw [masE, hmp, Bool.false_and, if_neg (by decide), Nat.add_zero]
              rw [hA9, hS9] at hl
              refine n_iinc (j := f) (n := 1) (lv' := [(14, .int (nI (f + 1))), (13, .int (bI (thr Y d k m || thr Y o k m))), (12, .int (nI k)), (11, .int (nI (masA Y d o m k + masE Y d o k m (f + 1)))), (10, .int (nI (magA Y d o m k + magE Y d o k m (f + 1)))), (0, .ref (ad (0, 0, 0, 0))), (1, .ref (ad (35, 0, 0, 0))), (2, .ref (ad (43, 0, 0, 0))), (3, .ref (ad (44, 0, 0, 0))), (4, .ref (ad (41, 0, 0, 0))), (5, .ref (ad (42, 0, 0, 0))), (6, .ref (ad (40, 0, 0, 0))), (7, .ref (ad (45, 0, 0, 0))), (8, .int (nI d)), (9, .int (nI o))]) hx hb dL_isPair_146 hl (k := 0) rfl (by decide) (by decide) rfl (fun ls hl => ?_)
              refine lv_goto (tgt := 70) hx hb dL_isPair_149 (by decide) ?_
              exact ih70 (f + 1) (by omega) (by omega) H locs ls (h.eq (congrArg (lay tc ad gm dz) rfl)) (lv_sub hl [0, 1, 2, 3, 4, 5, 6, 7, 8, 9, 10, 11, 12, 13, 14] rfl)
            · skip
              refine lv_aload_n hx hb dL_isPair_94 rfl (lv_at hl 8 rfl) ?_
              refine lv_iload hx hb dL_isPair_95 (lv_at hl 14 rfl) ?_
              refine lv_iload hx hb dL_isPair_97 (lv_at hl 2 rfl) ?_
              refine lv_iload hx hb dL_isPair_99 (lv_at hl 0 rfl) ?_
              refine x_doneI X h (x_runS X h (m_L_may Y hL o k (by omega) (by omega) f (by omega) _) F_L_may q766 q767 rfl (Nat.le_of_ble_eq_true rfl) (Nat.le_of_ble_eq_true rfl) ⟨Nat.le_of_ble_eq_true rfl, Nat.le_of_ble_eq_true rfl⟩ hl.1 (Nat.le_of_ble_eq_true rfl) dL_isPair_101 rfl) (fun H locs h => ?_)
              refine b_if_eq (tgt := 146) hx hb dL_isPair_104 (by decide) (fun c_104 => ?_) (fun c_104 => ?_)
              · skip
                have hmp : magP Y d o k m f = false := by unfold magP; rw [c_104, Bool.false_and, Bool.and_false]
                have hA9 : magA Y d o m k + magE Y d o k m f = magA Y d o m k + magE Y d o k m (f + 1) := by rw [magE, hmp, if_neg (by decide), Nat.add_zero]
                have hS9 : masA Y d o m k + masE Y d o k m f = masA Y d o m k + masE Y d o k m (f + 1) := by rw [masE, hmp, Bool.false_and, if_neg (by decide), Nat.add_zero]
                rw [hA9, hS9] at hl
                refine n_iinc (j := f) (n := 1) (lv' := [(14, .int (nI (f + 1))), (13, .int (bI (thr Y d k m || thr Y o k m))), (12, .int (nI k)), (11, .int (nI (masA Y d o m k + masE Y d o k m (f + 1)))), (10, .int (nI (magA Y d o m k + magE Y d o k m (f + 1)))), (0, .ref (ad (0, 0, 0, 0))), (1, .ref (ad (35, 0, 0, 0))), (2, .ref (ad (43, 0, 0, 0))), (3, .ref (ad (44, 0, 0, 0))), (4, .ref (ad (41, 0, 0, 0))), (5, .ref (ad (42, 0, 0, 0))), (6, .ref (ad (40, 0, 0, 0))), (7, .ref (ad (45, 0, 0, 0))), (8, .int (nI d)), (9, .int (nI o))]) hx hb dL_isPair_146 hl (k := 0) rfl (by decide) (by decide) rfl (fun ls hl => ?_)
                refine lv_goto (tgt := 70) hx hb dL_isPair_149 (by decide) ?_
                exact ih70 (f + 1) (by omega) (by omega) H locs ls (h.eq (congrArg (lay tc ad gm dz) rfl)) (lv_sub hl [0, 1, 2, 3, 4, 5, 6, 7, 8, 9, 10, 11, 12, 13, 14] rfl)
              · skip
                have hmp : magP Y d o k m f = true := by unfold magP; rw [c_78, c_91, c_104]; rfl
                refine n_iinc (j := (magA Y d o m k + magE Y d o k m f)) (n := 1) (lv' := [(10, .int (nI ((magA Y d o m k + magE Y d o k m f) + 1))), (14, .int (nI f)), (13, .int (bI (thr Y d k m || thr Y o k m))), (12, .int (nI k)), (11, .int (nI (masA Y d o m k + masE Y d o k m f))), (0, .ref (ad (0, 0, 0, 0))), (1, .ref (ad (35, 0, 0, 0))), (2, .ref (ad (43, 0, 0, 0))), (3, .ref (ad (44, 0, 0, 0))), (4, .ref (ad (41, 0, 0, 0))), (5, .ref (ad (42, 0, 0, 0))), (6, .ref (ad (40, 0, 0, 0))), (7, .ref (ad (45, 0, 0, 0))), (8, .int (nI d)), (9, .int (nI o))]) hx hb dL_isPair_107 hl (k := 4) rfl (by decide) (by decide) rfl (fun ls hl => ?_)
                refine lv_iload hx hb dL_isPair_110 (lv_at hl 4 rfl) ?_
                refine lv_aload_n hx hb dL_isPair_112 rfl (lv_at hl 6 rfl) ?_
                refine lv_iload hx hb dL_isPair_113 (lv_at hl 13 rfl) ?_
                refine lv_iload hx hb dL_isPair_115 (lv_at hl 3 rfl) ?_
                refine lv_iload hx hb dL_isPair_117 (lv_at hl 1 rfl) ?_
                refine x_doneI X h (x_runS X h (m_L_at (LL Y) d k f _) F_L_at q744 q745 rfl (Nat.le_of_ble_eq_true rfl) (Nat.le_of_ble_eq_true rfl) ⟨Nat.le_of_ble_eq_true rfl, Nat.le_of_ble_eq_true rfl⟩ hl.1 (Nat.le_of_ble_eq_true rfl) dL_isPair_119 rfl) (fun H locs h => ?_)
                refine z_lald X h pkB (fun _ => rfl) (by decide) (hL (35, 0, 0, 0) ⟨by decide, rfl, rfl, rfl⟩) (by omega) (v := pk (rw6 (Y (35, 0, 0, 0)) (24 * (10 * d + k) + 6 * f))) ((congrFun (congrArg pkB (LL_see (by decide))) _).trans (pkB_at (by omega) (by omega))) dL_isPair_122 ?_
                refine lv_aload_n hx hb dL_isPair_123 rfl (lv_at hl 6 rfl) ?_
                refine lv_iload hx hb dL_isPair_124 (lv_at hl 14 rfl) ?_
                refine lv_iload hx hb dL_isPair_126 (lv_at hl 3 rfl) ?_
                refine lv_iload hx hb dL_isPair_128 (lv_at hl 1 rfl) ?_
                refine x_doneI X h (x_runS X h (m_L_at (LL Y) o k f _) F_L_at q744 q745 rfl (Nat.le_of_ble_eq_true rfl) (Nat.le_of_ble_eq_true rfl) ⟨Nat.le_of_ble_eq_true rfl, Nat.le_of_ble_eq_true rfl⟩ hl.1 (Nat.le_of_ble_eq_true rfl) dL_isPair_130 rfl) (fun H locs h => ?_)
                refine z_lald X h pkB (fun _ => rfl) (by decide) (hL (35, 0, 0, 0) ⟨by decide, rfl, rfl, rfl⟩) (by omega) (v := pk (rw6 (Y (35, 0, 0, 0)) (24 * (10 * o + k) + 6 * f))) ((congrFun (congrArg pkB (LL_see (by decide))) _).trans (pkB_at (by omega) (by omega))) dL_isPair_133 ?_
                refine W.lcmp hx hb dL_isPair_134 ?_
                refine lv_if_ne (tgt := 142) hx hb dL_isPair_135 (by decide) (fun c_135 => ?_) (fun c_135 => ?_)
                · skip
                  have hsm : samB Y d o k f = false := Bool.eq_false_iff.mpr (fun z => c_135 ((lg_cmp_eq _ _).mpr ((sam_iff hok.1).mp z)))
                  refine lv_iconst (v := nI 0) hx hb dL_isPair_142 (by decide) ?_
                  refine n_iadd hx hb dL_isPair_143 ?_
                  refine lv_istore (lv' := [(11, .int (nI ((masA Y d o m k + masE Y d o k m f) + 0))), (10, .int (nI ((magA Y d o m k + magE Y d o k m f) + 1))), (14, .int (nI f)), (13, .int (bI (thr Y d k m || thr Y o k m))), (12, .int (nI k)), (0, .ref (ad (0, 0, 0, 0))), (1, .ref (ad (35, 0, 0, 0))), (2, .ref (ad (43, 0, 0, 0))), (3, .ref (ad (44, 0, 0, 0))), (4, .ref (ad (41, 0, 0, 0))), (5, .ref (ad (42, 0, 0, 0))), (6, .ref (ad (40, 0, 0, 0))), (7, .ref (ad (45, 0, 0, 0))), (8, .int (nI d)), (9, .int (nI o))]) hx hb dL_isPair_144 hl (by decide) rfl (fun ls hl => ?_)
                  have hA9 : (magA Y d o m k + magE Y d o k m f) + 1 = magA Y d o m k + magE Y d o k m (f + 1) := by rw [magE, hmp, if_pos rfl, Nat.add_assoc]
                  have hS9 : (masA Y d o m k + masE Y d o k m f) + 0 = masA Y d o m k + masE Y d o k m (f + 1) := by rw [masE, hmp, hsm, Bool.true_and, if_neg (by decide), Nat.add_assoc]
                  rw [hA9, hS9] at hl
                  refine n_iinc (j := f) (n := 1) (lv' := [(14, .int (nI (f + 1))), (11, .int (nI (masA Y d o m k + masE Y d o k m (f + 1)))), (10, .int (nI (magA Y d o m k + magE Y d o k m (f + 1)))), (13, .int (bI (thr Y d k m || thr Y o k m))), (12, .int (nI k)), (0, .ref (ad (0, 0, 0, 0))), (1, .ref (ad (35, 0, 0, 0))), (2, .ref (ad (43, 0, 0, 0))), (3, .ref (ad (44, 0, 0, 0))), (4, .ref (ad (41, 0, 0, 0))), (5, .ref (ad (42, 0, 0, 0))), (6, .ref (ad (40, 0, 0, 0))), (7, .ref (ad (45, 0, 0, 0))), (8, .int (nI d)), (9, .int (nI o))]) hx hb dL_isPair_146 hl (k := 2) rfl (by decide) (by decide) rfl (fun ls hl => ?_)
                  refine lv_goto (tgt := 70) hx hb dL_isPair_149 (by decide) ?_
                  exact ih70 (f + 1) (by omega) (by omega) H locs ls (h.eq (congrArg (lay tc ad gm dz) rfl)) (lv_sub hl [0, 3, 4, 1, 2, 5, 6, 7, 8, 9, 10, 11, 12, 13, 14] rfl)
                · skip
                  have hsm : samB Y d o k f = true := (sam_iff hok.1).mpr ((lg_cmp_eq _ _).mp c_135)
                  refine lv_iconst (v := nI 1) hx hb dL_isPair_138 (by decide) ?_
                  refine lv_goto (tgt := 143) hx hb dL_isPair_139 (by decide) ?_
                  refine n_iadd hx hb dL_isPair_143 ?_
                  refine lv_istore (lv' := [(11, .int (nI ((masA Y d o m k + masE Y d o k m f) + 1))), (10, .int (nI ((magA Y d o m k + magE Y d o k m f) + 1))), (14, .int (nI f)), (13, .int (bI (thr Y d k m || thr Y o k m))), (12, .int (nI k)), (0, .ref (ad (0, 0, 0, 0))), (1, .ref (ad (35, 0, 0, 0))), (2, .ref (ad (43, 0, 0, 0))), (3, .ref (ad (44, 0, 0, 0))), (4, .ref (ad (41, 0, 0, 0))), (5, .ref (ad (42, 0, 0, 0))), (6, .ref (ad (40, 0, 0, 0))), (7, .ref (ad (45, 0, 0, 0))), (8, .int (nI d)), (9, .int (nI o))]) hx hb dL_isPair_144 hl (by decide) rfl (fun ls hl => ?_)
                  have hA9 : (magA Y d o m k + magE Y d o k m f) + 1 = magA Y d o m k + magE Y d o k m (f + 1) := by rw [magE, hmp, if_pos rfl, Nat.add_assoc]
                  have hS9 : (masA Y d o m k + masE Y d o k m f) + 1 = masA Y d o m k + masE Y d o k m (f + 1) := by rw [masE, hmp, hsm, Bool.true_and, if_pos rfl, Nat.add_assoc]
                  rw [hA9, hS9] at hl
                  refine n_iinc (j := f) (n := 1) (lv' := [(14, .int (nI (f + 1))), (11, .int (nI (masA Y d o m k + masE Y d o k m (f + 1)))), (10, .int (nI (magA Y d o m k + magE Y d o k m (f + 1)))), (13, .int (bI (thr Y d k m || thr Y o k m))), (12, .int (nI k)), (0, .ref (ad (0, 0, 0, 0))), (1, .ref (ad (35, 0, 0, 0))), (2, .ref (ad (43, 0, 0, 0))), (3, .ref (ad (44, 0, 0, 0))), (4, .ref (ad (41, 0, 0, 0))), (5, .ref (ad (42, 0, 0, 0))), (6, .ref (ad (40, 0, 0, 0))), (7, .ref (ad (45, 0, 0, 0))), (8, .int (nI d)), (9, .int (nI o))]) hx hb dL_isPair_146 hl (k := 2) rfl (by decide) (by decide) rfl (fun ls hl => ?_)
                  refine lv_goto (tgt := 70) hx hb dL_isPair_149 (by decide) ?_
                  exact ih70 (f + 1) (by omega) (by omega) H locs ls (h.eq (congrArg (lay tc ad gm dz) rfl)) (lv_sub hl [0, 3, 4, 1, 2, 5, 6, 7, 8, 9, 10, 11, 12, 13, 14] rfl)
      · skip
        have hq : (thr Y d k m || thr Y o k m) = true := by rw [mst_t c_57, Bool.or_true]
        refine lv_iconst (v := nI 1) hx hb dL_isPair_60 (by decide) ?_
        refine lv_goto (tgt := 65) hx hb dL_isPair_61 (by decide) ?_
        rw [lb_t hq]
        refine lv_istore (lv' := [(13, .int (bI (thr Y d k m || thr Y o k m))), (12, .int (nI k)), (11, .int (nI (masA Y d o m k))), (10, .int (nI (magA Y d o m k))), (0, .ref (ad (0, 0, 0, 0))), (1, .ref (ad (35, 0, 0, 0))), (2, .ref (ad (43, 0, 0, 0))), (3, .ref (ad (44, 0, 0, 0))), (4, .ref (ad (41, 0, 0, 0))), (5, .ref (ad (42, 0, 0, 0))), (6, .ref (ad (40, 0, 0, 0))), (7, .ref (ad (45, 0, 0, 0))), (8, .int (nI d)), (9, .int (nI o))]) hx hb dL_isPair_65 hl (by decide) rfl (fun ls hl => ?_)
        have hgAk := hgA k
        have hgSk := hgS k
        refine lv_iconst (v := nI 0) hx hb dL_isPair_67 (by decide) ?_
        refine lv_istore (lv' := [(14, .int (nI 0)), (13, .int (bI (thr Y d k m || thr Y o k m))), (12, .int (nI k)), (11, .int (nI (masA Y d o m k))), (10, .int (nI (magA Y d o m k))), (0, .ref (ad (0, 0, 0, 0))), (1, .ref (ad (35, 0, 0, 0))), (2, .ref (ad (43, 0, 0, 0))), (3, .ref (ad (44, 0, 0, 0))), (4, .ref (ad (41, 0, 0, 0))), (5, .ref (ad (42, 0, 0, 0))), (6, .ref (ad (40, 0, 0, 0))), (7, .ref (ad (45, 0, 0, 0))), (8, .int (nI d)), (9, .int (nI o))]) hx hb dL_isPair_68 hl (by decide) rfl (fun ls hl => ?_)
        refine y_loop (D := D) (A := wA ad Ks s.heap.size) (ad := ad) (Ks := Ks) (nL := 15) (fun f : Nat => lay tc ad gm dz (LL Y)) (fun f => [(14, .int (nI f)), (13, .int (bI (thr Y d k m || thr Y o k m))), (12, .int (nI k)), (11, .int (nI (masA Y d o m k + masE Y d o k m f))), (10, .int (nI (magA Y d o m k + magE Y d o k m f))), (0, .ref (ad (0, 0, 0, 0))), (1, .ref (ad (35, 0, 0, 0))), (2, .ref (ad (43, 0, 0, 0))), (3, .ref (ad (44, 0, 0, 0))), (4, .ref (ad (41, 0, 0, 0))), (5, .ref (ad (42, 0, 0, 0))), (6, .ref (ad (40, 0, 0, 0))), (7, .ref (ad (45, 0, 0, 0))), (8, .int (nI d)), (9, .int (nI o))]) (fun _ => []) (fun f : Nat => f ≤ 4) (fun f => 4 - f) (fun f hi70 ih70 H locs ls h hl => ?_) 0 (Nat.zero_le _) (h.eq (congrArg (lay tc ad gm dz) rfl)) (lv_sub hl [0, 1, 2, 3, 4, 5, 6, 7, 8, 9, 10, 11, 12, 13, 14] rfl) rfl
        have h : Sx D (wA ad Ks s.heap.size) ad Ks (lay tc ad gm dz (LL Y)) s H locs := h
        have hl : lv_has ls 15 [(14, .int (nI f)), (13, .int (bI (thr Y d k m || thr Y o k m))), (12, .int (nI k)), (11, .int (nI (masA Y d o m k + masE Y d o k m f))), (10, .int (nI (magA Y d o m k + magE Y d o k m f))), (0, .ref (ad (0, 0, 0, 0))), (1, .ref (ad (35, 0, 0, 0))), (2, .ref (ad (43, 0, 0, 0))), (3, .ref (ad (44, 0, 0, 0))), (4, .ref (ad (41, 0, 0, 0))), (5, .ref (ad (42, 0, 0, 0))), (6, .ref (ad (40, 0, 0, 0))), (7, .ref (ad (45, 0, 0, 0))), (8, .int (nI d)), (9, .int (nI o))] := hl
        refine lv_iload hx hb dL_isPair_70 (lv_at hl 0 rfl) ?_
        refine lv_iconst (v := nI 4) hx hb dL_isPair_72 (by decide) ?_
        refine n_icmp_ge (tgt := 152) hx hb (by omega) (by omega) dL_isPair_73 (by decide) (fun c_73 => ?_) (fun c_73 => ?_)
        · skip
          have him : f = 4 := by omega
          rw [him] at hl
          have hl : lv_has ls 15 [(12, .int (nI k)), (11, .int (nI (masA Y d o m (k + 1)))), (10, .int (nI (magA Y d o m (k + 1)))), (0, .ref (ad (0, 0, 0, 0))), (1, .ref (ad (35, 0, 0, 0))), (2, .ref (ad (43, 0, 0, 0))), (3, .ref (ad (44, 0, 0, 0))), (4, .ref (ad (41, 0, 0, 0))), (5, .ref (ad (42, 0, 0, 0))), (6, .ref (ad (40, 0, 0, 0))), (7, .ref (ad (45, 0, 0, 0))), (8, .int (nI d)), (9, .int (nI o))] := lv_sub hl [2, 3, 4, 5, 6, 7, 8, 9, 10, 11, 12, 13, 14] rfl
          refine n_iinc (j := k) (n := 1) (lv' := [(12, .int (nI (k + 1))), (11, .int (nI (masA Y d o m (k + 1)))), (10, .int (nI (magA Y d o m (k + 1)))), (0, .ref (ad (0, 0, 0, 0))), (1, .ref (ad (35, 0, 0, 0))), (2, .ref (ad (43, 0, 0, 0))), (3, .ref (ad (44, 0, 0, 0))), (4, .ref (ad (41, 0, 0, 0))), (5, .ref (ad (42, 0, 0, 0))), (6, .ref (ad (40, 0, 0, 0))), (7, .ref (ad (45, 0, 0, 0))), (8, .int (nI d)), (9, .int (nI o))]) hx hb dL_isPair_152 hl (k := 0) rfl (by decide) (by decide) rfl (fun ls hl => ?_)
          refine lv_goto (tgt := 9) hx hb dL_isPair_155 (by decide) ?_
          exact ih9 (k + 1) (by omega) (by omega) H locs ls (h.eq (congrArg (lay tc ad gm dz) rfl)) (lv_sub hl [0, 1, 2, 3, 4, 5, 6, 7, 8, 9, 10, 11, 12] rfl)
        · skip
          have heAf := heA k f
          have heSf := heS k f
          refine lv_iload hx hb dL_isPair_76 (lv_at hl 1 rfl) ?_
          refine b_if_eq (tgt := 146) hx hb dL_isPair_78 (by decide) (fun c_78 => ?_) (fun c_78 => ?_)
          · skip
            have hmp : magP Y d o k m f = false := by unfold magP; rw [c_78, Bool.and_false, Bool.and_false]
            have hA9 : magA Y d o m k + magE Y d o k m f = magA Y d o m k + magE Y d o k m (f + 1) := by rw [magE, hmp, if_neg (by decide), Nat.add_zero]
            have hS9 : masA Y d o m k + masE Y d o k m f = masA Y d o m k + masE Y d o k m (f + 1) := by rw [masE, hmp, Bool.false_and, if_neg (by decide), Nat.add_zero]
            rw [hA9, hS9] at hl
            refine n_iinc (j := f) (n := 1) (lv' := [(14, .int (nI (f + 1))), (13, .int (bI (thr Y d k m || thr Y o k m))), (12, .int (nI k)), (11, .int (nI (masA Y d o m k + masE Y d o k m (f + 1)))), (10, .int (nI (magA Y d o m k + magE Y d o k m (f + 1)))), (0, .ref (ad (0, 0, 0, 0))), (1, .ref (ad (35, 0, 0, 0))), (2, .ref (ad (43, 0, 0, 0))), (3, .ref (ad (44, 0, 0, 0))), (4, .ref (ad (41, 0, 0, 0))), (5, .ref (ad (42, 0, 0, 0))), (6, .ref (ad (40, 0, 0, 0))), (7, .ref (ad (45, 0, 0, 0))), (8, .int (nI d)), (9, .int (nI o))]) hx hb dL_isPair_146 hl (k := 0) rfl (by decide) (by decide) rfl (fun ls hl => ?_)
            refine lv_goto (tgt := 70) hx hb dL_isPair_149 (by decide) ?_
            exact ih70 (f + 1) (by omega) (by omega) H locs ls (h.eq (congrArg (lay tc ad gm dz) rfl)) (lv_sub hl [0, 1, 2, 3, 4, 5, 6, 7, 8, 9, 10, 11, 12, 13, 14] rfl)
          · skip
            refine lv_aload_n hx hb dL_isPair_81 rfl (lv_at hl 8 rfl) ?_
            refine lv_iload hx hb dL_isPair_82 (lv_at hl 13 rfl) ?_
            refine lv_iload hx hb dL_isPair_84 (lv_at hl 2 rfl) ?_
            refine lv_iload hx hb dL_isPair_86 (lv_at hl 0 rfl) ?_
            refine x_doneI X h (x_runS X h (m_L_may Y hL d k (by omega) (by omega) f (by omega) _) F_L_may q766 q767 rfl (Nat.le_of_ble_eq_true rfl) (Nat.le_of_ble_eq_true rfl) ⟨Nat.le_of_ble_eq_true rfl, Nat.le_of_ble_eq_true rfl⟩ hl.1 (Nat.le_of_ble_eq_true rfl) dL_isPair_88 rfl) (fun H locs h => ?_)
            refine b_if_eq (tgt := 146) hx hb dL_isPair_91 (by decide) (fun c_91 => ?_) (fun c_91 => ?_)
            · skip
              have hmp : magP Y d o k m f = false := by unfold magP; rw [c_91, Bool.false_and]
              have hA9 : magA Y d o m k + magE Y d o k m f = magA Y d o m k + magE Y d o k m (f + 1) := by rw [magE, hmp, if_neg (by decide), Nat.add_zero]
              have hS9 : masA Y d o m k + masE Y d o k m f = masA Y d o m k + masE Y d o k m (f + 1) := by rw [masE, hmp, Bool.false_and, if_neg (by decide), Nat.add_zero]
              rw [hA9, hS9] at hl
              refine n_iinc (j := f) (n := 1) (lv' := [(14, .int (nI (f + 1))), (13, .int (bI (thr Y d k m || thr Y o k m))), (12, .int (nI k)), (11, .int (nI (masA Y d o m k + masE Y d o k m (f + 1)))), (10, .int (nI (magA Y d o m k + magE Y d o k m (f + 1)))), (0, .ref (ad (0, 0, 0, 0))), (1, .ref (ad (35, 0, 0, 0))), (2, .ref (ad (43, 0, 0, 0))), (3, .ref (ad (44, 0, 0, 0))), (4, .ref (ad (41, 0, 0, 0))), (5, .ref (ad (42, 0, 0, 0))), (6, .ref (ad (40, 0, 0, 0))), (7, .ref (ad (45, 0, 0, 0))), (8, .int (nI d)), (9, .int (nI o))]) hx hb dL_isPair_146 hl (k := 0) rfl (by decide) (by decide) rfl (fun ls hl => ?_)
              refine lv_goto (tgt := 70) hx hb dL_isPair_149 (by decide) ?_
              exact ih70 (f + 1) (by omega) (by omega) H locs ls (h.eq (congrArg (lay tc ad gm dz) rfl)) (lv_sub hl [0, 1, 2, 3, 4, 5, 6, 7, 8, 9, 10, 11, 12, 13, 14] rfl)
            · skip
              refine lv_aload_n hx hb dL_isPair_94 rfl (lv_at hl 8 rfl) ?_
              refine lv_iload hx hb dL_isPair_95 (lv_at hl 14 rfl) ?_
              refine lv_iload hx hb dL_isPair_97 (lv_at hl 2 rfl) ?_
              refine lv_iload hx hb dL_isPair_99 (lv_at hl 0 rfl) ?_
              refine x_doneI X h (x_runS X h (m_L_may Y hL o k (by omega) (by omega) f (by omega) _) F_L_may q766 q767 rfl (Nat.le_of_ble_eq_true rfl) (Nat.le_of_ble_eq_true rfl) ⟨Nat.le_of_ble_eq_true rfl, Nat.le_of_ble_eq_true rfl⟩ hl.1 (Nat.le_of_ble_eq_true rfl) dL_isPair_101 rfl) (fun H locs h => ?_)
              refine b_if_eq (tgt := 146) hx hb dL_isPair_104 (by decide) (fun c_104 => ?_) (fun c_104 => ?_)
              · skip
                have hmp : magP Y d o k m f = false := by unfold magP; rw [c_104, Bool.false_and, Bool.and_false]
                have hA9 : magA Y d o m k + magE Y d o k m f = magA Y d o m k + magE Y d o k m (f + 1) := by rw [magE, hmp, if_neg (by decide), Nat.add_zero]
                have hS9 : masA Y d o m k + masE Y d o k m f = masA Y d o m k + masE Y d o k m (f + 1) := by rw [masE, hmp, Bool.false_and, if_neg (by decide), Nat.add_zero]
                rw [hA9, hS9] at hl
                refine n_iinc (j := f) (n := 1) (lv' := [(14, .int (nI (f + 1))), (13, .int (bI (thr Y d k m || thr Y o k m))), (12, .int (nI k)), (11, .int (nI (masA Y d o m k + masE Y d o k m (f + 1)))), (10, .int (nI (magA Y d o m k + magE Y d o k m (f + 1)))), (0, .ref (ad (0, 0, 0, 0))), (1, .ref (ad (35, 0, 0, 0))), (2, .ref (ad (43, 0, 0, 0))), (3, .ref (ad (44, 0, 0, 0))), (4, .ref (ad (41, 0, 0, 0))), (5, .ref (ad (42, 0, 0, 0))), (6, .ref (ad (40, 0, 0, 0))), (7, .ref (ad (45, 0, 0, 0))), (8, .int (nI d)), (9, .int (nI o))]) hx hb dL_isPair_146 hl (k := 0) rfl (by decide) (by decide) rfl (fun ls hl => ?_)
                refine lv_goto (tgt := 70) hx hb dL_isPair_149 (by decide) ?_
                exact ih70 (f + 1) (by omega) (by omega) H locs ls (h.eq (congrArg (lay tc ad gm dz) rfl)) (lv_sub hl [0, 1, 2, 3, 4, 5, 6, 7, 8, 9, 10, 11, 12, 13, 14] rfl)
              · skip
                have hmp : magP Y d o k m f = true := by unfold magP; rw [c_78, c_91, c_104]; rfl
                refine n_iinc (j := (magA Y d o m k + magE Y d o k m f)) (n := 1) (lv' := [(10, .int (nI ((magA Y d o m k + magE Y d o k m f) + 1))), (14, .int (nI f)), (13, .int (bI (thr Y d k m || thr Y o k m))), (12, .int (nI k)), (11, .int (nI (masA Y d o m k + masE Y d o k m f))), (0, .ref (ad (0, 0, 0, 0))), (1, .ref (ad (35, 0, 0, 0))), (2, .ref (ad (43, 0, 0, 0))), (3, .ref (ad (44, 0, 0, 0))), (4, .ref (ad (41, 0, 0, 0))), (5, .ref (ad (42, 0, 0, 0))), (6, .ref (ad (40, 0, 0, 0))), (7, .ref (ad (45, 0, 0, 0))), (8, .int (nI d)), (9, .int (nI o))]) hx hb dL_isPair_107 hl (k := 4) rfl (by decide) (by decide) rfl (fun ls hl => ?_)
                refine lv_iload hx hb dL_isPair_110 (lv_at hl 4 rfl) ?_
                refine lv_aload_n hx hb dL_isPair_112 rfl (lv_at hl 6 rfl) ?_
                refine lv_iload hx hb dL_isPair_113 (lv_at hl 13 rfl) ?_
                refine lv_iload hx hb dL_isPair_115 (lv_at hl 3 rfl) ?_
                refine lv_iload hx hb dL_isPair_117 (lv_at hl 1 rfl) ?_
                refine x_doneI X h (x_runS X h (m_L_at (LL Y) d k f _) F_L_at q744 q745 rfl (Nat.le_of_ble_eq_true rfl) (Nat.le_of_ble_eq_true rfl) ⟨Nat.le_of_ble_eq_true rfl, Nat.le_of_ble_eq_true rfl⟩ hl.1 (Nat.le_of_ble_eq_true rfl) dL_isPair_119 rfl) (fun H locs h => ?_)
                refine z_lald X h pkB (fun _ => rfl) (by decide) (hL (35, 0, 0, 0) ⟨by decide, rfl, rfl, rfl⟩) (by omega) (v := pk (rw6 (Y (35, 0, 0, 0)) (24 * (10 * d + k) + 6 * f))) ((congrFun (congrArg pkB (LL_see (by decide))) _).trans (pkB_at (by omega) (by omega))) dL_isPair_122 ?_
                refine lv_aload_n hx hb dL_isPair_123 rfl (lv_at hl 6 rfl) ?_
                refine lv_iload hx hb dL_isPair_124 (lv_at hl 14 rfl) ?_
                refine lv_iload hx hb dL_isPair_126 (lv_at hl 3 rfl) ?_
                refine lv_iload hx hb dL_isPair_128 (lv_at hl 1 rfl) ?_
                refine x_doneI X h (x_runS X h (m_L_at (LL Y) o k f _) F_L_at q744 q745 rfl (Nat.le_of_ble_eq_true rfl) (Nat.le_of_ble_eq_true rfl) ⟨Nat.le_of_ble_eq_true rfl, Nat.le_of_ble_eq_true rfl⟩ hl.1 (Nat.le_of_ble_eq_true rfl) dL_isPair_130 rfl) (fun H locs h => ?_)
                refine z_lald X h pkB (fun _ => rfl) (by decide) (hL (35, 0, 0, 0) ⟨by decide, rfl, rfl, rfl⟩) (by omega) (v := pk (rw6 (Y (35, 0, 0, 0)) (24 * (10 * o + k) + 6 * f))) ((congrFun (congrArg pkB (LL_see (by decide))) _).trans (pkB_at (by omega) (by omega))) dL_isPair_133 ?_
                refine W.lcmp hx hb dL_isPair_134 ?_
                refine lv_if_ne (tgt := 142) hx hb dL_isPair_135 (by decide) (fun c_135 => ?_) (fun c_135 => ?_)
                · skip
                  have hsm : samB Y d o k f = false := Bool.eq_false_iff.mpr (fun z => c_135 ((lg_cmp_eq _ _).mpr ((sam_iff hok.1).mp z)))
                  refine lv_iconst (v := nI 0) hx hb dL_isPair_142 (by decide) ?_
                  refine n_iadd hx hb dL_isPair_143 ?_
                  refine lv_istore (lv' := [(11, .int (nI ((masA Y d o m k + masE Y d o k m f) + 0))), (10, .int (nI ((magA Y d o m k + magE Y d o k m f) + 1))), (14, .int (nI f)), (13, .int (bI (thr Y d k m || thr Y o k m))), (12, .int (nI k)), (0, .ref (ad (0, 0, 0, 0))), (1, .ref (ad (35, 0, 0, 0))), (2, .ref (ad (43, 0, 0, 0))), (3, .ref (ad (44, 0, 0, 0))), (4, .ref (ad (41, 0, 0, 0))), (5, .ref (ad (42, 0, 0, 0))), (6, .ref (ad (40, 0, 0, 0))), (7, .ref (ad (45, 0, 0, 0))), (8, .int (nI d)), (9, .int (nI o))]) hx hb dL_isPair_144 hl (by decide) rfl (fun ls hl => ?_)
                  have hA9 : (magA Y d o m k + magE Y d o k m f) + 1 = magA Y d o m k + magE Y d o k m (f + 1) := by rw [magE, hmp, if_pos rfl, Nat.add_assoc]
                  have hS9 : (masA Y d o m k + masE Y d o k m f) + 0 = masA Y d o m k + masE Y d o k m (f + 1) := by rw [masE, hmp, hsm, Bool.true_and, if_neg (by decide), Nat.add_assoc]
                  rw [hA9, hS9] at hl
                  refine n_iinc (j := f) (n := 1) (lv' := [(14, .int (nI (f + 1))), (11, .int (nI (masA Y d o m k + masE Y d o k m (f + 1)))), (10, .int (nI (magA Y d o m k + magE Y d o k m (f + 1)))), (13, .int (bI (thr Y d k m || thr Y o k m))), (12, .int (nI k)), (0, .ref (ad (0, 0, 0, 0))), (1, .ref (ad (35, 0, 0, 0))), (2, .ref (ad (43, 0, 0, 0))), (3, .ref (ad (44, 0, 0, 0))), (4, .ref (ad (41, 0, 0, 0))), (5, .ref (ad (42, 0, 0, 0))), (6, .ref (ad (40, 0, 0, 0))), (7, .ref (ad (45, 0, 0, 0))), (8, .int (nI d)), (9, .int (nI o))]) hx hb dL_isPair_146 hl (k := 2) rfl (by decide) (by decide) rfl (fun ls hl => ?_)
                  refine lv_goto (tgt := 70) hx hb dL_isPair_149 (by decide) ?_
                  exact ih70 (f + 1) (by omega) (by omega) H locs ls (h.eq (congrArg (lay tc ad gm dz) rfl)) (lv_sub hl [0, 3, 4, 1, 2, 5, 6, 7, 8, 9, 10, 11, 12, 13, 14] rfl)
                · skip
                  have hsm : samB Y d o k f = true := (sam_iff hok.1).mpr ((lg_cmp_eq _ _).mp c_135)
                  refine lv_iconst (v := nI 1) hx hb dL_isPair_138 (by decide) ?_
                  refine lv_goto (tgt := 143) hx hb dL_isPair_139 (by decide) ?_
                  refine n_iadd hx hb dL_isPair_143 ?_
                  refine lv_istore (lv' := [(11, .int (nI ((masA Y d o m k + masE Y d o k m f) + 1))), (10, .int (nI ((magA Y d o m k + magE Y d o k m f) + 1))), (14, .int (nI f)), (13, .int (bI (thr Y d k m || thr Y o k m))), (12, .int (nI k)), (0, .ref (ad (0, 0, 0, 0))), (1, .ref (ad (35, 0, 0, 0))), (2, .ref (ad (43, 0, 0, 0))), (3, .ref (ad (44, 0, 0, 0))), (4, .ref (ad (41, 0, 0, 0))), (5, .ref (ad (42, 0, 0, 0))), (6, .ref (ad (40, 0, 0, 0))), (7, .ref (ad (45, 0, 0, 0))), (8, .int (nI d)), (9, .int (nI o))]) hx hb dL_isPair_144 hl (by decide) rfl (fun ls hl => ?_)
                  have hA9 : (magA Y d o m k + magE Y d o k m f) + 1 = magA Y d o m k + magE Y d o k m (f + 1) := by rw [magE, hmp, if_pos rfl, Nat.add_assoc]
                  have hS9 : (masA Y d o m k + masE Y d o k m f) + 1 = masA Y d o m k + masE Y d o k m (f + 1) := by rw [masE, hmp, hsm, Bool.true_and, if_pos rfl, Nat.add_assoc]
                  rw [hA9, hS9] at hl
                  refine n_iinc (j := f) (n := 1) (lv' := [(14, .int (nI (f + 1))), (11, .int (nI (masA Y d o m k + masE Y d o k m (f + 1)))), (10, .int (nI (magA Y d o m k + magE Y d o k m (f + 1)))), (13, .int (bI (thr Y d k m || thr Y o k m))), (12, .int (nI k)), (0, .ref (ad (0, 0, 0, 0))), (1, .ref (ad (35, 0, 0, 0))), (2, .ref (ad (43, 0, 0, 0))), (3, .ref (ad (44, 0, 0, 0))), (4, .ref (ad (41, 0, 0, 0))), (5, .ref (ad (42, 0, 0, 0))), (6, .ref (ad (40, 0, 0, 0))), (7, .ref (ad (45, 0, 0, 0))), (8, .int (nI d)), (9, .int (nI o))]) hx hb dL_isPair_146 hl (k := 2) rfl (by decide) (by decide) rfl (fun ls hl => ?_)
                  refine lv_goto (tgt := 70) hx hb dL_isPair_149 (by decide) ?_
                  exact ih70 (f + 1) (by omega) (by omega) H locs ls (h.eq (congrArg (lay tc ad gm dz) rfl)) (lv_sub hl [0, 3, 4, 1, 2, 5, 6, 7, 8, 9, 10, 11, 12, 13, 14] rfl)
