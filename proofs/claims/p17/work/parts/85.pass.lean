/-! the law's passing -/
def snc (Z : Mem) (D k j : Nat) : Int32 := if mo Z k j then Z (42, 0, 0, 0) (6 * j + D) else 0
theorem snc_y {Z : Mem} {D k j : Nat} (h : Z (40, 0, 0, 0) j = nI k) : snc Z D k j = Z (42, 0, 0, 0) (6 * j + D) := by
  unfold snc
  rw [mo_t h, if_pos rfl]
theorem snc_n {Z : Mem} {D k j : Nat} (h : ¬ Z (40, 0, 0, 0) j = nI k) : snc Z D k j = nI 0 := by
  unfold snc
  rw [mo_f h, if_neg (by decide)]
  rfl
theorem snc_b {Z : Mem} {D k j : Nat} : (mo Z k j && kmk Z D j) = decide (0 < snc Z D k j) := by
  unfold snc
  cases mo Z k j with
  | true => rw [if_pos rfl]; rfl
  | false => rw [if_neg (by decide)]; rfl
theorem snc_tb {Z : Mem} (hT : TR Z) {D k j : Nat} : 0 ≤ (snc Z D k j).toInt := by
  unfold snc
  split
  · exact (hT _).1
  · rw [i_zero]; omega
theorem snc_eq0 {Z : Mem} {D k j : Nat} (h : snc Z D k j = 0) : agC Z D k (j + 1) = agC Z D k j := by
  rw [agC, snc_b, h]
  rfl
theorem snc_ne0 {Z : Mem} (hT : TR Z) {D k j : Nat} (h : ¬ snc Z D k j = 0) : (mo Z k j && kmk Z D j) = true := by
  rw [snc_b]
  refine decide_eq_true ?_
  rw [Int32.lt_iff_toInt_lt, i_zero]
  have h1 := snc_tb hT (D := D) (k := k) (j := j)
  have h2 : (snc Z D k j).toInt ≠ 0 := fun z => h (i_ext (z.trans i_zero.symm))
  omega
theorem ag_s {Z : Mem} (hT : TR Z) {D k j t : Nat} (ht : Z (30, 0, 0, 0) 0 = nI t) (h : ¬ snc Z D k j = 0) : agC Z D k (j + 1) = (agC Z D k j && !decide (nI (t + 1) - snc Z D k j ≤ nI 12)) := by
  have h2 := snc_ne0 hT h
  rw [agC, h2, if_pos rfl]
  unfold agQ
  rw [Bool.and_eq_true] at h2
  rw [show snc Z D k j = Z (42, 0, 0, 0) (6 * j + D) by unfold snc; rw [h2.1, if_pos rfl], ht, nI_add]
theorem mst_le (Z : Mem) (d k m : Nat) : mstR Z d k m ≤ 3 := by
  unfold mstR
  by_cases h : Z (34, 0, 0, 0) (10 * d + k) = 0
  · rw [if_pos h]; omega
  · rw [if_neg h]
    cases thr Z d k m with
    | true => rw [if_pos rfl]; omega
    | false =>
      rw [if_neg (by decide)]
      cases cvt Z d k m with
      | true => rw [if_pos rfl]; omega
      | false => rw [if_neg (by decide)]; omega
theorem mpB_eq {Z : Mem} {D k m : Nat} : mpB Z D k m = ((decide (1 < mstR Z D k m) && agC Z D k m) && decide (0 < agN Z D k m)) := by
  unfold mpB mstR
  by_cases h : Z (34, 0, 0, 0) (10 * D + k) = 0
  · rw [if_pos h, if_pos h]; rfl
  · rw [if_neg h, if_neg h]
    cases thr Z D k m with
    | true => rw [if_pos rfl]; rfl
    | false =>
      rw [if_neg (by decide)]
      cases cvt Z D k m with
      | true => rw [if_pos rfl]; rfl
      | false => rw [if_neg (by decide)]; rfl
theorem mp0_LAe {Y : Mem} {n m t x : Nat} (ht : Y (30, 0, 0, 0) 0 = nI t) : LAe (sset (LL Y) (45, 0, 0, 0) (upd (LL Y (45, 0, 0, 0)) 1 (nI (t + x)))) (LL (mpD Y (nI x) n m 0)) := by
  have ho : ∀ k : KN, k.1 ≠ 30 → mpD Y (nI x) n m 0 k = Y k := fun k h => by rw [mpD, sset_ne _ _ (fun q => h (by rw [q])), th_see h]
  have hs : ∀ k : KN, k.1 < 45 → sset (LL Y) (45, 0, 0, 0) (upd (LL Y (45, 0, 0, 0)) 1 (nI (t + x))) k = LL Y k := fun k h => sset_ne _ _ (fun q => by rw [q] at h; exact absurd h (by decide))
  refine ⟨fun k hk => by rw [hs k (by omega), LL_see (by omega), LL_see (by omega), ho k (by omega)], fun d2 e2 c _ _ _ => by rw [hs _ (by decide), LL_see (by decide), LL_see (by decide), ho _ (by decide)], fun d2 e2 c _ _ _ => by rw [hs _ (by decide), LL_see (by decide), LL_see (by decide), ho _ (by decide)], fun d2 e2 c _ _ _ => by rw [hs _ (by decide), LL_see (by decide), LL_see (by decide), ho _ (by decide)], fun y hy => by rw [hs _ (by decide), LL_see (by decide), LL_see (by decide), ho _ (by decide)], fun y hy => by rw [hs _ (by decide), LL_see (by decide), LL_see (by decide), ho _ (by decide)], fun y hy => by rw [hs _ (by decide), LL_see (by decide), LL_see (by decide), ho _ (by decide)], fun y hy => ?_, fun y hy => ?_, fun y hy => ?_⟩
  · rw [hs _ (by decide), LL_43, LL_43]
    unfold kcode
    rw [ho _ (by decide), ho _ (by decide)]
  · rw [hs _ (by decide), LL_44, LL_44]
    unfold wcode
    rw [ho _ (by decide), ho _ (by decide)]
  · rw [sset_eq, LL_45, LL_45]
    have h0 : mpD Y (nI x) n m 0 (30, 0, 0, 0) 0 = nI (t + x) := by rw [mpD, sset_eq, ud_eq, th_30 (by decide), ht, nI_add]
    have h12 : ∀ j, j ≠ 0 → j ≠ 4 → mpD Y (nI x) n m 0 (30, 0, 0, 0) j = Y (30, 0, 0, 0) j := fun j a b => by rw [mpD, sset_eq, ud_ne _ _ a, th_30 b]
    unfold gcode
    rw [h0, h12 1 (by decide) (by decide), h12 2 (by decide) (by decide), ho _ (by decide)]
    by_cases q : y = 1
    · subst q; rw [ud_eq]; rfl
    · rw [ud_ne _ _ q]
      by_cases q0 : y = 0
      · rw [if_pos q0, if_pos q0]
      · rw [if_neg q0, if_neg q0, if_neg q, if_neg q]
theorem nr_mpD {Y : Mem} {n m t x : Nat} (h : NR Y n m t) (D : Nat) : NR (mpD Y (nI x) n m D) n m (t + x) := by
  refine ⟨(mpD_30 (by decide) (by decide) D).trans h.1, ?_, (mpD_30 (by decide) (by decide) D).trans h.2.2⟩
  induction D with
  | zero => rw [mpD, sset_eq, ud_eq, th_30 (by decide), h.2.1, nI_add]
  | succ D ih => rw [mpD, mpE_30]; exact ih
theorem nr_mpE {Y : Mem} {n m t D : Nat} (h : NR Y n m t) (k : Nat) : NR (mpE Y D m k) n m t := h.see (fun j _ => by rw [mpE_30])
theorem pass_bad {x : Nat} (h : 24 < x) (h2 : x < 100) : inR (nI x) (nI 1) (nI 24) = false := by
  unfold inR
  rw [if_neg, if_pos]
  · exact (nI_ltI (by omega) (by omega)).mpr h
  · rw [nI_ltI (by omega) (by omega)]; omega
theorem pass_good {x : Nat} (h0 : 0 < x) (h : x ≤ 24) : inR (nI x) (nI 1) (nI 24) = true := by
  unfold inR
  rw [if_neg, if_neg]
  · rw [nI_ltI (by omega) (by omega)]; omega
  · rw [nI_ltI (by omega) (by omega)]; omega
theorem ag_f {Z : Mem} {d k m j : Nat} (h : (decide (1 < mstR Z d k m) && agC Z d k j) = false) : (decide (1 < mstR Z d k m) && agC Z d k (j + 1)) = false := by
  rw [agC]
  split
  · rw [← Bool.and_assoc, h, Bool.false_and]
  · exact h
section SEGS
variable {p : Program} {l : Launch} {e : Env} {R : Room} {s : State} {mth : MethodId} {args : Array Value} {below : List Frame} {meth : Method} {c : Code} {H : Heap} {locs : List Loc} {cells slots : Nat} {Q : State → Prop}
variable {D : va_G} {tc : TC} {dz : Nat} {A : Nat → Prop} {ad : KN → Nat} {Ks : List KN} {gm : GM} {ls : Array Slot}
set_option maxHeartbeats 4000000 in
set_option maxRecDepth 100000 in
theorem pa_1 (X : Cx p s mth args meth c cL_isPassed yL_isPassed.cls 18 D tc dz A) (hR1 : 12 ≤ R.frames) (hR2 : 400 ≤ R.locals) (hcR : cells ≤ R.cells) (hsR : slots ≤ R.slots) (hL : LV gm Ks) (Z : Mem) (hW : LW gm Ks) (hZ : OKX Z) (n m t : Nat) (hN : NR Z n m t) (hn2 : n ≤ 2) (hm10 : m ≤ 10) (ht9 : t ≤ 2000) (d k gn x : Nat) (hd : d < 6) (hk2 : k < 2) (h : Sx D A ad Ks (lay tc ad gm dz (LL Z)) s H locs) (hl : lv_has ls 18 [(12, .int (nI k)), (11, .int (nI d)), (10, .int (nI gn)), (0, .ref (ad (0, 0, 0, 0))), (1, .ref (ad (35, 0, 0, 0))), (2, .ref (ad (37, 0, 0, 0))), (3, .ref (ad (39, 0, 0, 0))), (4, .ref (ad (43, 0, 0, 0))), (5, .ref (ad (41, 0, 0, 0))), (6, .ref (ad (42, 0, 0, 0))), (7, .ref (ad (40, 0, 0, 0))), (8, .ref (ad (45, 0, 0, 0))), (9, .int (nI x))])
    (kk : ∀ (H1 : Heap) (locs1 : List Loc) (ls1 : Array Slot), Sx D A ad Ks (lay tc ad gm dz (LL Z)) s H1 locs1 → lv_has ls1 18 [(15, .int (bI (decide (1 < mstR Z d k m) && agC Z d k m))), (14, .int (nI (agN Z d k m))), (12, .int (nI k)), (11, .int (nI d)), (10, .int (nI gn)), (0, .ref (ad (0, 0, 0, 0))), (1, .ref (ad (35, 0, 0, 0))), (2, .ref (ad (37, 0, 0, 0))), (3, .ref (ad (39, 0, 0, 0))), (4, .ref (ad (43, 0, 0, 0))), (5, .ref (ad (41, 0, 0, 0))), (6, .ref (ad (42, 0, 0, 0))), (7, .ref (ad (40, 0, 0, 0))), (8, .ref (ad (45, 0, 0, 0))), (9, .int (nI x))] → W p l e R s mth args below meth c H1 locs1 cells slots Q (F0 mth 190 ls1 [])) : W p l e R s mth args below meth c H locs cells slots Q (F0 mth 63 ls []) := by
  obtain ⟨hx, hb, hmaxL, hown, hts⟩ := id X.1
  refine lv_aload_n hx hb dL_isPassed_63 rfl (lv_at hl 4 rfl) ?_
  refine lv_aload hx hb dL_isPassed_64 (lv_at hl 7 rfl) ?_
  refine lv_aload hx hb dL_isPassed_66 (lv_at hl 8 rfl) ?_
  refine lv_aload hx hb dL_isPassed_68 (lv_at hl 9 rfl) ?_
  refine lv_aload hx hb dL_isPassed_70 (lv_at hl 10 rfl) ?_
  refine lv_aload hx hb dL_isPassed_72 (lv_at hl 11 rfl) ?_
  refine lv_iload hx hb dL_isPassed_74 (lv_at hl 1 rfl) ?_
  refine lv_iload hx hb dL_isPassed_76 (lv_at hl 0 rfl) ?_
  refine x_doneI X h (x_runS X h (m_L_state Z hL hZ.1 hZ.k01 n m t hN hn2 hm10 ht9 d k (by omega) (by omega) _) F_L_state q738 q739 rfl (Nat.le_trans (by decide) hR1) (Nat.le_trans (by decide) hR2) ⟨hcR, hsR⟩ hl.1 (Nat.le_of_ble_eq_true rfl) dL_isPassed_78 rfl) (fun H locs h => ?_)
  have hs3 := mst_le Z d k m
  refine lv_istore (lv' := [(13, .int (nI (mstR Z d k m))), (12, .int (nI k)), (11, .int (nI d)), (10, .int (nI gn)), (0, .ref (ad (0, 0, 0, 0))), (1, .ref (ad (35, 0, 0, 0))), (2, .ref (ad (37, 0, 0, 0))), (3, .ref (ad (39, 0, 0, 0))), (4, .ref (ad (43, 0, 0, 0))), (5, .ref (ad (41, 0, 0, 0))), (6, .ref (ad (42, 0, 0, 0))), (7, .ref (ad (40, 0, 0, 0))), (8, .ref (ad (45, 0, 0, 0))), (9, .int (nI x))]) hx hb dL_isPassed_81 hl (by decide) rfl (fun ls hl => ?_)
  refine lv_iconst (v := nI 0) hx hb dL_isPassed_83 (by decide) ?_
  refine lv_istore (lv' := [(14, .int (nI 0)), (13, .int (nI (mstR Z d k m))), (12, .int (nI k)), (11, .int (nI d)), (10, .int (nI gn)), (0, .ref (ad (0, 0, 0, 0))), (1, .ref (ad (35, 0, 0, 0))), (2, .ref (ad (37, 0, 0, 0))), (3, .ref (ad (39, 0, 0, 0))), (4, .ref (ad (43, 0, 0, 0))), (5, .ref (ad (41, 0, 0, 0))), (6, .ref (ad (42, 0, 0, 0))), (7, .ref (ad (40, 0, 0, 0))), (8, .ref (ad (45, 0, 0, 0))), (9, .int (nI x))]) hx hb dL_isPassed_84 hl (by decide) rfl (fun ls hl => ?_)
  refine lv_iload hx hb dL_isPassed_86 (lv_at hl 1 rfl) ?_
  refine lv_iconst (v := nI 1) hx hb dL_isPassed_88 (by decide) ?_
  refine n_icmp_le (tgt := 96) hx hb (by omega) (by omega) dL_isPassed_89 (by decide) (fun c_89 => ?_) (fun c_89 => ?_)
  · skip
    have hq : (decide (1 < mstR Z d k m) && agC Z d k 0) = false := by rw [decide_eq_false (by omega), Bool.false_and]
    refine lv_iconst (v := nI 0) hx hb dL_isPassed_96 (by decide) ?_
    rw [lb_f hq]
    refine lv_istore (lv' := [(15, .int (bI (decide (1 < mstR Z d k m) && agC Z d k 0))), (14, .int (nI 0)), (13, .int (nI (mstR Z d k m))), (12, .int (nI k)), (11, .int (nI d)), (10, .int (nI gn)), (0, .ref (ad (0, 0, 0, 0))), (1, .ref (ad (35, 0, 0, 0))), (2, .ref (ad (37, 0, 0, 0))), (3, .ref (ad (39, 0, 0, 0))), (4, .ref (ad (43, 0, 0, 0))), (5, .ref (ad (41, 0, 0, 0))), (6, .ref (ad (42, 0, 0, 0))), (7, .ref (ad (40, 0, 0, 0))), (8, .ref (ad (45, 0, 0, 0))), (9, .int (nI x))]) hx hb dL_isPassed_97 hl (by decide) rfl (fun ls hl => ?_)
    refine lv_iconst (v := nI 0) hx hb dL_isPassed_99 (by decide) ?_
    refine lv_istore (lv' := [(16, .int (nI 0)), (15, .int (bI (decide (1 < mstR Z d k m) && agC Z d k 0))), (14, .int (nI 0)), (13, .int (nI (mstR Z d k m))), (12, .int (nI k)), (11, .int (nI d)), (10, .int (nI gn)), (0, .ref (ad (0, 0, 0, 0))), (1, .ref (ad (35, 0, 0, 0))), (2, .ref (ad (37, 0, 0, 0))), (3, .ref (ad (39, 0, 0, 0))), (4, .ref (ad (43, 0, 0, 0))), (5, .ref (ad (41, 0, 0, 0))), (6, .ref (ad (42, 0, 0, 0))), (7, .ref (ad (40, 0, 0, 0))), (8, .ref (ad (45, 0, 0, 0))), (9, .int (nI x))]) hx hb dL_isPassed_100 hl (by decide) rfl (fun ls hl => ?_)
    refine y_loop (D := D) (A := A) (ad := ad) (Ks := Ks) (nL := 18) (fun j : Nat => lay tc ad gm dz (LL Z)) (fun j => [(16, .int (nI j)), (15, .int (bI (decide (1 < mstR Z d k m) && agC Z d k j))), (14, .int (nI (agN Z d k j))), (12, .int (nI k)), (11, .int (nI d)), (10, .int (nI gn)), (0, .ref (ad (0, 0, 0, 0))), (1, .ref (ad (35, 0, 0, 0))), (2, .ref (ad (37, 0, 0, 0))), (3, .ref (ad (39, 0, 0, 0))), (4, .ref (ad (43, 0, 0, 0))), (5, .ref (ad (41, 0, 0, 0))), (6, .ref (ad (42, 0, 0, 0))), (7, .ref (ad (40, 0, 0, 0))), (8, .ref (ad (45, 0, 0, 0))), (9, .int (nI x))]) (fun _ => []) (fun j : Nat => j ≤ m) (fun j => m - j) (fun j hi102 ih102 H locs ls h hl => ?_) 0 (Nat.zero_le _) (h.eq (congrArg (lay tc ad gm dz) rfl)) (lv_sub hl [0, 1, 2, 4, 5, 6, 7, 8, 9, 10, 11, 12, 13, 14, 15, 16] rfl) rfl
    have h : Sx D A ad Ks (lay tc ad gm dz (LL Z)) s H locs := h
    have hl : lv_has ls 18 [(16, .int (nI j)), (15, .int (bI (decide (1 < mstR Z d k m) && agC Z d k j))), (14, .int (nI (agN Z d k j))), (12, .int (nI k)), (11, .int (nI d)), (10, .int (nI gn)), (0, .ref (ad (0, 0, 0, 0))), (1, .ref (ad (35, 0, 0, 0))), (2, .ref (ad (37, 0, 0, 0))), (3, .ref (ad (39, 0, 0, 0))), (4, .ref (ad (43, 0, 0, 0))), (5, .ref (ad (41, 0, 0, 0))), (6, .ref (ad (42, 0, 0, 0))), (7, .ref (ad (40, 0, 0, 0))), (8, .ref (ad (45, 0, 0, 0))), (9, .int (nI x))] := hl
    refine lv_iload hx hb dL_isPassed_102 (lv_at hl 0 rfl) ?_
    refine lv_aload hx hb dL_isPassed_104 (lv_at hl 14 rfl) ?_
    refine lv_iconst (v := nI 2) hx hb dL_isPassed_106 (by decide) ?_
    refine y_ald X h (fun _ => rfl) (by decide) (hL (45, 0, 0, 0) ⟨by decide, rfl, rfl, rfl⟩) (by omega) (v := nI m) (gc_2.trans hN.2.2) dL_isPassed_107 ?_
    refine n_icmp_ge (tgt := 190) hx hb (by omega) (by omega) dL_isPassed_108 (by decide) (fun c_108 => ?_) (fun c_108 => ?_)
    · skip
      have him : j = m := by omega
      rw [him] at hl
      exact kk H locs ls h (lv_sub hl [1, 2, 3, 4, 5, 6, 7, 8, 9, 10, 11, 12, 13, 14, 15] rfl)
    · skip
      refine lv_aload hx hb dL_isPassed_111 (lv_at hl 13 rfl) ?_
      refine lv_iload hx hb dL_isPassed_113 (lv_at hl 0 rfl) ?_
      refine y_ald X h (fun _ => rfl) (by decide) (hL (40, 0, 0, 0) ⟨by decide, rfl, rfl, rfl⟩) (by omega) (v := Z (40, 0, 0, 0) j) (congrFun (LL_see (by decide)) _) dL_isPassed_115 ?_
      refine lv_iload hx hb dL_isPassed_116 (lv_at hl 3 rfl) ?_
      refine lv_icmp_ne (tgt := 135) hx hb dL_isPassed_118 (by decide) (fun c_118 => ?_) (fun c_118 => ?_)
      · skip
        have hsn : nI 0 = snc Z d k j := (snc_n c_118).symm
        refine lv_iconst (v := nI 0) hx hb dL_isPassed_135 (by decide) ?_
        rw [hsn]
        refine lv_istore (lv' := [(17, .int (snc Z d k j)), (16, .int (nI j)), (15, .int (bI (decide (1 < mstR Z d k m) && agC Z d k j))), (14, .int (nI (agN Z d k j))), (12, .int (nI k)), (11, .int (nI d)), (10, .int (nI gn)), (0, .ref (ad (0, 0, 0, 0))), (1, .ref (ad (35, 0, 0, 0))), (2, .ref (ad (37, 0, 0, 0))), (3, .ref (ad (39, 0, 0, 0))), (4, .ref (ad (43, 0, 0, 0))), (5, .ref (ad (41, 0, 0, 0))), (6, .ref (ad (42, 0, 0, 0))), (7, .ref (ad (40, 0, 0, 0))), (8, .ref (ad (45, 0, 0, 0))), (9, .int (nI x))]) hx hb dL_isPassed_136 hl (by decide) rfl (fun ls hl => ?_)
        refine lv_iload hx hb dL_isPassed_138 (lv_at hl 3 rfl) ?_
        refine lv_iload hx hb dL_isPassed_140 (lv_at hl 0 rfl) ?_
        refine lv_if_le (tgt := 149) hx hb dL_isPassed_142 (by decide) (fun c_142 => ?_) (fun c_142 => ?_)
        · skip
          have hcn : agN Z d k j + 0 = agN Z d k (j + 1) := (cntN_n (p := fun k9 => mo Z k k9 && kmk Z d k9) (snc_b.trans (decide_eq_false (le_not_lt c_142)))).symm
          refine lv_iconst (v := nI 0) hx hb dL_isPassed_149 (by decide) ?_
          refine n_iadd hx hb dL_isPassed_150 ?_
          rw [hcn]
          refine lv_istore (lv' := [(14, .int (nI (agN Z d k (j + 1)))), (17, .int (snc Z d k j)), (16, .int (nI j)), (15, .int (bI (decide (1 < mstR Z d k m) && agC Z d k j))), (12, .int (nI k)), (11, .int (nI d)), (10, .int (nI gn)), (0, .ref (ad (0, 0, 0, 0))), (1, .ref (ad (35, 0, 0, 0))), (2, .ref (ad (37, 0, 0, 0))), (3, .ref (ad (39, 0, 0, 0))), (4, .ref (ad (43, 0, 0, 0))), (5, .ref (ad (41, 0, 0, 0))), (6, .ref (ad (42, 0, 0, 0))), (7, .ref (ad (40, 0, 0, 0))), (8, .ref (ad (45, 0, 0, 0))), (9, .int (nI x))]) hx hb dL_isPassed_151 hl (by decide) rfl (fun ls hl => ?_)
          refine lv_iload hx hb dL_isPassed_153 (lv_at hl 3 rfl) ?_
          refine b_if_eq (tgt := 181) hx hb dL_isPassed_155 (by decide) (fun c_155 => ?_) (fun c_155 => ?_)
          · skip
            have hq : (decide (1 < mstR Z d k m) && agC Z d k (j + 1)) = false := ag_f c_155
            refine lv_iconst (v := nI 0) hx hb dL_isPassed_181 (by decide) ?_
            rw [lb_f hq]
            refine lv_istore (lv' := [(15, .int (bI (decide (1 < mstR Z d k m) && agC Z d k (j + 1)))), (14, .int (nI (agN Z d k (j + 1)))), (17, .int (snc Z d k j)), (16, .int (nI j)), (12, .int (nI k)), (11, .int (nI d)), (10, .int (nI gn)), (0, .ref (ad (0, 0, 0, 0))), (1, .ref (ad (35, 0, 0, 0))), (2, .ref (ad (37, 0, 0, 0))), (3, .ref (ad (39, 0, 0, 0))), (4, .ref (ad (43, 0, 0, 0))), (5, .ref (ad (41, 0, 0, 0))), (6, .ref (ad (42, 0, 0, 0))), (7, .ref (ad (40, 0, 0, 0))), (8, .ref (ad (45, 0, 0, 0))), (9, .int (nI x))]) hx hb dL_isPassed_182 hl (by decide) rfl (fun ls hl => ?_)
            refine n_iinc (j := j) (n := 1) (lv' := [(16, .int (nI (j + 1))), (15, .int (bI (decide (1 < mstR Z d k m) && agC Z d k (j + 1)))), (14, .int (nI (agN Z d k (j + 1)))), (17, .int (snc Z d k j)), (12, .int (nI k)), (11, .int (nI d)), (10, .int (nI gn)), (0, .ref (ad (0, 0, 0, 0))), (1, .ref (ad (35, 0, 0, 0))), (2, .ref (ad (37, 0, 0, 0))), (3, .ref (ad (39, 0, 0, 0))), (4, .ref (ad (43, 0, 0, 0))), (5, .ref (ad (41, 0, 0, 0))), (6, .ref (ad (42, 0, 0, 0))), (7, .ref (ad (40, 0, 0, 0))), (8, .ref (ad (45, 0, 0, 0))), (9, .int (nI x))]) hx hb dL_isPassed_184 hl (k := 3) rfl (by decide) (by decide) rfl (fun ls hl => ?_)
            refine lv_goto (tgt := 102) hx hb dL_isPassed_187 (by decide) ?_
            exact ih102 (j + 1) (by omega) (by omega) H locs ls (h.eq (congrArg (lay tc ad gm dz) rfl)) (lv_sub hl [0, 1, 2, 4, 5, 6, 7, 8, 9, 10, 11, 12, 13, 14, 15, 16] rfl)
          · skip
            refine lv_iload hx hb dL_isPassed_158 (lv_at hl 1 rfl) ?_
            refine lv_if_eq (tgt := 177) hx hb dL_isPassed_160 (by decide) (fun c_160 => ?_) (fun c_160 => ?_)
            · skip
              have hq : (decide (1 < mstR Z d k m) && agC Z d k (j + 1)) = true := by rw [snc_eq0 c_160]; exact c_155
              refine lv_iconst (v := nI 1) hx hb dL_isPassed_177 (by decide) ?_
              refine lv_goto (tgt := 182) hx hb dL_isPassed_178 (by decide) ?_
              rw [lb_t hq]
              refine lv_istore (lv' := [(15, .int (bI (decide (1 < mstR Z d k m) && agC Z d k (j + 1)))), (14, .int (nI (agN Z d k (j + 1)))), (17, .int (snc Z d k j)), (16, .int (nI j)), (12, .int (nI k)), (11, .int (nI d)), (10, .int (nI gn)), (0, .ref (ad (0, 0, 0, 0))), (1, .ref (ad (35, 0, 0, 0))), (2, .ref (ad (37, 0, 0, 0))), (3, .ref (ad (39, 0, 0, 0))), (4, .ref (ad (43, 0, 0, 0))), (5, .ref (ad (41, 0, 0, 0))), (6, .ref (ad (42, 0, 0, 0))), (7, .ref (ad (40, 0, 0, 0))), (8, .ref (ad (45, 0, 0, 0))), (9, .int (nI x))]) hx hb dL_isPassed_182 hl (by decide) rfl (fun ls hl => ?_)
              refine n_iinc (j := j) (n := 1) (lv' := [(16, .int (nI (j + 1))), (15, .int (bI (decide (1 < mstR Z d k m) && agC Z d k (j + 1)))), (14, .int (nI (agN Z d k (j + 1)))), (17, .int (snc Z d k j)), (12, .int (nI k)), (11, .int (nI d)), (10, .int (nI gn)), (0, .ref (ad (0, 0, 0, 0))), (1, .ref (ad (35, 0, 0, 0))), (2, .ref (ad (37, 0, 0, 0))), (3, .ref (ad (39, 0, 0, 0))), (4, .ref (ad (43, 0, 0, 0))), (5, .ref (ad (41, 0, 0, 0))), (6, .ref (ad (42, 0, 0, 0))), (7, .ref (ad (40, 0, 0, 0))), (8, .ref (ad (45, 0, 0, 0))), (9, .int (nI x))]) hx hb dL_isPassed_184 hl (k := 3) rfl (by decide) (by decide) rfl (fun ls hl => ?_)
              refine lv_goto (tgt := 102) hx hb dL_isPassed_187 (by decide) ?_
              exact ih102 (j + 1) (by omega) (by omega) H locs ls (h.eq (congrArg (lay tc ad gm dz) rfl)) (lv_sub hl [0, 1, 2, 4, 5, 6, 7, 8, 9, 10, 11, 12, 13, 14, 15, 16] rfl)
            · skip
              refine lv_aload hx hb dL_isPassed_163 (lv_at hl 15 rfl) ?_
              refine lv_iconst (v := nI 1) hx hb dL_isPassed_165 (by decide) ?_
              refine y_ald X h (fun _ => rfl) (by decide) (hL (45, 0, 0, 0) ⟨by decide, rfl, rfl, rfl⟩) (by omega) (v := nI t) (gc_1.trans hN.2.1) dL_isPassed_166 ?_
              refine lv_iconst (v := nI 1) hx hb dL_isPassed_167 (by decide) ?_
              refine n_iadd hx hb dL_isPassed_168 ?_
              refine lv_iload hx hb dL_isPassed_169 (lv_at hl 1 rfl) ?_
              refine lv_isub hx hb dL_isPassed_171 ?_
              refine lv_bipush (v := nI 12) hx hb dL_isPassed_172 (by decide) ?_
              refine lv_icmp_le (tgt := 181) hx hb dL_isPassed_174 (by decide) (fun c_174 => ?_) (fun c_174 => ?_)
              · skip
                have hq : (decide (1 < mstR Z d k m) && agC Z d k (j + 1)) = false := by rw [ag_s hZ.tr hN.2.1 c_160, decide_eq_true c_174, Bool.not_true, Bool.and_false, Bool.and_false]
                refine lv_iconst (v := nI 0) hx hb dL_isPassed_181 (by decide) ?_
                rw [lb_f hq]
                refine lv_istore (lv' := [(15, .int (bI (decide (1 < mstR Z d k m) && agC Z d k (j + 1)))), (14, .int (nI (agN Z d k (j + 1)))), (17, .int (snc Z d k j)), (16, .int (nI j)), (12, .int (nI k)), (11, .int (nI d)), (10, .int (nI gn)), (0, .ref (ad (0, 0, 0, 0))), (1, .ref (ad (35, 0, 0, 0))), (2, .ref (ad (37, 0, 0, 0))), (3, .ref (ad (39, 0, 0, 0))), (4, .ref (ad (43, 0, 0, 0))), (5, .ref (ad (41, 0, 0, 0))), (6, .ref (ad (42, 0, 0, 0))), (7, .ref (ad (40, 0, 0, 0))), (8, .ref (ad (45, 0, 0, 0))), (9, .int (nI x))]) hx hb dL_isPassed_182 hl (by decide) rfl (fun ls hl => ?_)
                refine n_iinc (j := j) (n := 1) (lv' := [(16, .int (nI (j + 1))), (15, .int (bI (decide (1 < mstR Z d k m) && agC Z d k (j + 1)))), (14, .int (nI (agN Z d k (j + 1)))), (17, .int (snc Z d k j)), (12, .int (nI k)), (11, .int (nI d)), (10, .int (nI gn)), (0, .ref (ad (0, 0, 0, 0))), (1, .ref (ad (35, 0, 0, 0))), (2, .ref (ad (37, 0, 0, 0))), (3, .ref (ad (39, 0, 0, 0))), (4, .ref (ad (43, 0, 0, 0))), (5, .ref (ad (41, 0, 0, 0))), (6, .ref (ad (42, 0, 0, 0))), (7, .ref (ad (40, 0, 0, 0))), (8, .ref (ad (45, 0, 0, 0))), (9, .int (nI x))]) hx hb dL_isPassed_184 hl (k := 3) rfl (by decide) (by decide) rfl (fun ls hl => ?_)
                refine lv_goto (tgt := 102) hx hb dL_isPassed_187 (by decide) ?_
                exact ih102 (j + 1) (by omega) (by omega) H locs ls (h.eq (congrArg (lay tc ad gm dz) rfl)) (lv_sub hl [0, 1, 2, 4, 5, 6, 7, 8, 9, 10, 11, 12, 13, 14, 15, 16] rfl)
              · skip
                have hq : (decide (1 < mstR Z d k m) && agC Z d k (j + 1)) = true := by rw [ag_s hZ.tr hN.2.1 c_160, decide_eq_false c_174, Bool.not_false, Bool.and_true]; exact c_155
                refine lv_iconst (v := nI 1) hx hb dL_isPassed_177 (by decide) ?_
                refine lv_goto (tgt := 182) hx hb dL_isPassed_178 (by decide) ?_
                rw [lb_t hq]
                refine lv_istore (lv' := [(15, .int (bI (decide (1 < mstR Z d k m) && agC Z d k (j + 1)))), (14, .int (nI (agN Z d k (j + 1)))), (17, .int (snc Z d k j)), (16, .int (nI j)), (12, .int (nI k)), (11, .int (nI d)), (10, .int (nI gn)), (0, .ref (ad (0, 0, 0, 0))), (1, .ref (ad (35, 0, 0, 0))), (2, .ref (ad (37, 0, 0, 0))), (3, .ref (ad (39, 0, 0, 0))), (4, .ref (ad (43, 0, 0, 0))), (5, .ref (ad (41, 0, 0, 0))), (6, .ref (ad (42, 0, 0, 0))), (7, .ref (ad (40, 0, 0, 0))), (8, .ref (ad (45, 0, 0, 0))), (9, .int (nI x))]) hx hb dL_isPassed_182 hl (by decide) rfl (fun ls hl => ?_)
                refine n_iinc (j := j) (n := 1) (lv' := [(16, .int (nI (j + 1))), (15, .int (bI (decide (1 < mstR Z d k m) && agC Z d k (j + 1)))), (14, .int (nI (agN Z d k (j + 1)))), (17, .int (snc Z d k j)), (12, .int (nI k)), (11, .int (nI d)), (10, .int (nI gn)), (0, .ref (ad (0, 0, 0, 0))), (1, .ref (ad (35, 0, 0, 0))), (2, .ref (ad (37, 0, 0, 0))), (3, .ref (ad (39, 0, 0, 0))), (4, .ref (ad (43, 0, 0, 0))), (5, .ref (ad (41, 0, 0, 0))), (6, .ref (ad (42, 0, 0, 0))), (7, .ref (ad (40, 0, 0, 0))), (8, .ref (ad (45, 0, 0, 0))), (9, .int (nI x))]) hx hb dL_isPassed_184 hl (k := 3) rfl (by decide) (by decide) rfl (fun ls hl => ?_)
                refine lv_goto (tgt := 102) hx hb dL_isPassed_187 (by decide) ?_
                exact ih102 (j + 1) (by omega) (by omega) H locs ls (h.eq (congrArg (lay tc ad gm dz) rfl)) (lv_sub hl [0, 1, 2, 4, 5, 6, 7, 8, 9, 10, 11, 12, 13, 14, 15, 16] rfl)
        · skip
          have hcn : agN Z d k j + 1 = agN Z d k (j + 1) := (cntN_y (p := fun k9 => mo Z k k9 && kmk Z d k9) (snc_b.trans (decide_eq_true (not_le_lt c_142)))).symm
          refine lv_iconst (v := nI 1) hx hb dL_isPassed_145 (by decide) ?_
          refine lv_goto (tgt := 150) hx hb dL_isPassed_146 (by decide) ?_
          refine n_iadd hx hb dL_isPassed_150 ?_
          rw [hcn]
          refine lv_istore (lv' := [(14, .int (nI (agN Z d k (j + 1)))), (17, .int (snc Z d k j)), (16, .int (nI j)), (15, .int (bI (decide (1 < mstR Z d k m) && agC Z d k j))), (12, .int (nI k)), (11, .int (nI d)), (10, .int (nI gn)), (0, .ref (ad (0, 0, 0, 0))), (1, .ref (ad (35, 0, 0, 0))), (2, .ref (ad (37, 0, 0, 0))), (3, .ref (ad (39, 0, 0, 0))), (4, .ref (ad (43, 0, 0, 0))), (5, .ref (ad (41, 0, 0, 0))), (6, .ref (ad (42, 0, 0, 0))), (7, .ref (ad (40, 0, 0, 0))), (8, .ref (ad (45, 0, 0, 0))), (9, .int (nI x))]) hx hb dL_isPassed_151 hl (by decide) rfl (fun ls hl => ?_)
          refine lv_iload hx hb dL_isPassed_153 (lv_at hl 3 rfl) ?_
          refine b_if_eq (tgt := 181) hx hb dL_isPassed_155 (by decide) (fun c_155 => ?_) (fun c_155 => ?_)
          · skip
            have hq : (decide (1 < mstR Z d k m) && agC Z d k (j + 1)) = false := ag_f c_155
            refine lv_iconst (v := nI 0) hx hb dL_isPassed_181 (by decide) ?_
            rw [lb_f hq]
            refine lv_istore (lv' := [(15, .int (bI (decide (1 < mstR Z d k m) && agC Z d k (j + 1)))), (14, .int (nI (agN Z d k (j + 1)))), (17, .int (snc Z d k j)), (16, .int (nI j)), (12, .int (nI k)), (11, .int (nI d)), (10, .int (nI gn)), (0, .ref (ad (0, 0, 0, 0))), (1, .ref (ad (35, 0, 0, 0))), (2, .ref (ad (37, 0, 0, 0))), (3, .ref (ad (39, 0, 0, 0))), (4, .ref (ad (43, 0, 0, 0))), (5, .ref (ad (41, 0, 0, 0))), (6, .ref (ad (42, 0, 0, 0))), (7, .ref (ad (40, 0, 0, 0))), (8, .ref (ad (45, 0, 0, 0))), (9, .int (nI x))]) hx hb dL_isPassed_182 hl (by decide) rfl (fun ls hl => ?_)
            refine n_iinc (j := j) (n := 1) (lv' := [(16, .int (nI (j + 1))), (15, .int (bI (decide (1 < mstR Z d k m) && agC Z d k (j + 1)))), (14, .int (nI (agN Z d k (j + 1)))), (17, .int (snc Z d k j)), (12, .int (nI k)), (11, .int (nI d)), (10, .int (nI gn)), (0, .ref (ad (0, 0, 0, 0))), (1, .ref (ad (35, 0, 0, 0))), (2, .ref (ad (37, 0, 0, 0))), (3, .ref (ad (39, 0, 0, 0))), (4, .ref (ad (43, 0, 0, 0))), (5, .ref (ad (41, 0, 0, 0))), (6, .ref (ad (42, 0, 0, 0))), (7, .ref (ad (40, 0, 0, 0))), (8, .ref (ad (45, 0, 0, 0))), (9, .int (nI x))]) hx hb dL_isPassed_184 hl (k := 3) rfl (by decide) (by decide) rfl (fun ls hl => ?_)
            refine lv_goto (tgt := 102) hx hb dL_isPassed_187 (by decide) ?_
            exact ih102 (j + 1) (by omega) (by omega) H locs ls (h.eq (congrArg (lay tc ad gm dz) rfl)) (lv_sub hl [0, 1, 2, 4, 5, 6, 7, 8, 9, 10, 11, 12, 13, 14, 15, 16] rfl)
          · skip
            refine lv_iload hx hb dL_isPassed_158 (lv_at hl 1 rfl) ?_
            refine lv_if_eq (tgt := 177) hx hb dL_isPassed_160 (by decide) (fun c_160 => ?_) (fun c_160 => ?_)
            · skip
              have hq : (decide (1 < mstR Z d k m) && agC Z d k (j + 1)) = true := by rw [snc_eq0 c_160]; exact c_155
              refine lv_iconst (v := nI 1) hx hb dL_isPassed_177 (by decide) ?_
              refine lv_goto (tgt := 182) hx hb dL_isPassed_178 (by decide) ?_
              rw [lb_t hq]
              refine lv_istore (lv' := [(15, .int (bI (decide (1 < mstR Z d k m) && agC Z d k (j + 1)))), (14, .int (nI (agN Z d k (j + 1)))), (17, .int (snc Z d k j)), (16, .int (nI j)), (12, .int (nI k)), (11, .int (nI d)), (10, .int (nI gn)), (0, .ref (ad (0, 0, 0, 0))), (1, .ref (ad (35, 0, 0, 0))), (2, .ref (ad (37, 0, 0, 0))), (3, .ref (ad (39, 0, 0, 0))), (4, .ref (ad (43, 0, 0, 0))), (5, .ref (ad (41, 0, 0, 0))), (6, .ref (ad (42, 0, 0, 0))), (7, .ref (ad (40, 0, 0, 0))), (8, .ref (ad (45, 0, 0, 0))), (9, .int (nI x))]) hx hb dL_isPassed_182 hl (by decide) rfl (fun ls hl => ?_)
              refine n_iinc (j := j) (n := 1) (lv' := [(16, .int (nI (j + 1))), (15, .int (bI (decide (1 < mstR Z d k m) && agC Z d k (j + 1)))), (14, .int (nI (agN Z d k (j + 1)))), (17, .int (snc Z d k j)), (12, .int (nI k)), (11, .int (nI d)), (10, .int (nI gn)), (0, .ref (ad (0, 0, 0, 0))), (1, .ref (ad (35, 0, 0, 0))), (2, .ref (ad (37, 0, 0, 0))), (3, .ref (ad (39, 0, 0, 0))), (4, .ref (ad (43, 0, 0, 0))), (5, .ref (ad (41, 0, 0, 0))), (6, .ref (ad (42, 0, 0, 0))), (7, .ref (ad (40, 0, 0, 0))), (8, .ref (ad (45, 0, 0, 0))), (9, .int (nI x))]) hx hb dL_isPassed_184 hl (k := 3) rfl (by decide) (by decide) rfl (fun ls hl => ?_)
              refine lv_goto (tgt := 102) hx hb dL_isPassed_187 (by decide) ?_
              exact ih102 (j + 1) (by omega) (by omega) H locs ls (h.eq (congrArg (lay tc ad gm dz) rfl)) (lv_sub hl [0, 1, 2, 4, 5, 6, 7, 8, 9, 10, 11, 12, 13, 14, 15, 16] rfl)
            · skip
              refine lv_aload hx hb dL_isPassed_163 (lv_at hl 15 rfl) ?_
              refine lv_iconst (v := nI 1) hx hb dL_isPassed_165 (by decide) ?_
              refine y_ald X h (fun _ => rfl) (by decide) (hL (45, 0, 0, 0) ⟨by decide, rfl, rfl, rfl⟩) (by omega) (v := nI t) (gc_1.trans hN.2.1) dL_isPassed_166 ?_
              refine lv_iconst (v := nI 1) hx hb dL_isPassed_167 (by decide) ?_
              refine n_iadd hx hb dL_isPassed_168 ?_
              refine lv_iload hx hb dL_isPassed_169 (lv_at hl 1 rfl) ?_
              refine lv_isub hx hb dL_isPassed_171 ?_
              refine lv_bipush (v := nI 12) hx hb dL_isPassed_172 (by decide) ?_
              refine lv_icmp_le (tgt := 181) hx hb dL_isPassed_174 (by decide) (fun c_174 => ?_) (fun c_174 => ?_)
              · skip
                have hq : (decide (1 < mstR Z d k m) && agC Z d k (j + 1)) = false := by rw [ag_s hZ.tr hN.2.1 c_160, decide_eq_true c_174, Bool.not_true, Bool.and_false, Bool.and_false]
                refine lv_iconst (v := nI 0) hx hb dL_isPassed_181 (by decide) ?_
                rw [lb_f hq]
                refine lv_istore (lv' := [(15, .int (bI (decide (1 < mstR Z d k m) && agC Z d k (j + 1)))), (14, .int (nI (agN Z d k (j + 1)))), (17, .int (snc Z d k j)), (16, .int (nI j)), (12, .int (nI k)), (11, .int (nI d)), (10, .int (nI gn)), (0, .ref (ad (0, 0, 0, 0))), (1, .ref (ad (35, 0, 0, 0))), (2, .ref (ad (37, 0, 0, 0))), (3, .ref (ad (39, 0, 0, 0))), (4, .ref (ad (43, 0, 0, 0))), (5, .ref (ad (41, 0, 0, 0))), (6, .ref (ad (42, 0, 0, 0))), (7, .ref (ad (40, 0, 0, 0))), (8, .ref (ad (45, 0, 0, 0))), (9, .int (nI x))]) hx hb dL_isPassed_182 hl (by decide) rfl (fun ls hl => ?_)
                refine n_iinc (j := j) (n := 1) (lv' := [(16, .int (nI (j + 1))), (15, .int (bI (decide (1 < mstR Z d k m) && agC Z d k (j + 1)))), (14, .int (nI (agN Z d k (j + 1)))), (17, .int (snc Z d k j)), (12, .int (nI k)), (11, .int (nI d)), (10, .int (nI gn)), (0, .ref (ad (0, 0, 0, 0))), (1, .ref (ad (35, 0, 0, 0))), (2, .ref (ad (37, 0, 0, 0))), (3, .ref (ad (39, 0, 0, 0))), (4, .ref (ad (43, 0, 0, 0))), (5, .ref (ad (41, 0, 0, 0))), (6, .ref (ad (42, 0, 0, 0))), (7, .ref (ad (40, 0, 0, 0))), (8, .ref (ad (45, 0, 0, 0))), (9, .int (nI x))]) hx hb dL_isPassed_184 hl (k := 3) rfl (by decide) (by decide) rfl (fun ls hl => ?_)
                refine lv_goto (tgt := 102) hx hb dL_isPassed_187 (by decide) ?_
                exact ih102 (j + 1) (by omega) (by omega) H locs ls (h.eq (congrArg (lay tc ad gm dz) rfl)) (lv_sub hl [0, 1, 2, 4, 5, 6, 7, 8, 9, 10, 11, 12, 13, 14, 15, 16] rfl)
              · skip
                have hq : (decide (1 < mstR Z d k m) && agC Z d k (j + 1)) = true := by rw [ag_s hZ.tr hN.2.1 c_160, decide_eq_false c_174, Bool.not_false, Bool.and_true]; exact c_155
                refine lv_iconst (v := nI 1) hx hb dL_isPassed_177 (by decide) ?_
                refine lv_goto (tgt := 182) hx hb dL_isPassed_178 (by decide) ?_
                rw [lb_t hq]
                refine lv_istore (lv' := [(15, .int (bI (decide (1 < mstR Z d k m) && agC Z d k (j + 1)))), (14, .int (nI (agN Z d k (j + 1)))), (17, .int (snc Z d k j)), (16, .int (nI j)), (12, .int (nI k)), (11, .int (nI d)), (10, .int (nI gn)), (0, .ref (ad (0, 0, 0, 0))), (1, .ref (ad (35, 0, 0, 0))), (2, .ref (ad (37, 0, 0, 0))), (3, .ref (ad (39, 0, 0, 0))), (4, .ref (ad (43, 0, 0, 0))), (5, .ref (ad (41, 0, 0, 0))), (6, .ref (ad (42, 0, 0, 0))), (7, .ref (ad (40, 0, 0, 0))), (8, .ref (ad (45, 0, 0, 0))), (9, .int (nI x))]) hx hb dL_isPassed_182 hl (by decide) rfl (fun ls hl => ?_)
                refine n_iinc (j := j) (n := 1) (lv' := [(16, .int (nI (j + 1))), (15, .int (bI (decide (1 < mstR Z d k m) && agC Z d k (j + 1)))), (14, .int (nI (agN Z d k (j + 1)))), (17, .int (snc Z d k j)), (12, .int (nI k)), (11, .int (nI d)), (10, .int (nI gn)), (0, .ref (ad (0, 0, 0, 0))), (1, .ref (ad (35, 0, 0, 0))), (2, .ref (ad (37, 0, 0, 0))), (3, .ref (ad (39, 0, 0, 0))), (4, .ref (ad (43, 0, 0, 0))), (5, .ref (ad (41, 0, 0, 0))), (6, .ref (ad (42, 0, 0, 0))), (7, .ref (ad (40, 0, 0, 0))), (8, .ref (ad (45, 0, 0, 0))), (9, .int (nI x))]) hx hb dL_isPassed_184 hl (k := 3) rfl (by decide) (by decide) rfl (fun ls hl => ?_)
                refine lv_goto (tgt := 102) hx hb dL_isPassed_187 (by decide) ?_
                exact ih102 (j + 1) (by omega) (by omega) H locs ls (h.eq (congrArg (lay tc ad gm dz) rfl)) (lv_sub hl [0, 1, 2, 4, 5, 6, 7, 8, 9, 10, 11, 12, 13, 14, 15, 16] rfl)
      · skip
        have hsn : Z (42, 0, 0, 0) (6 * j + d) = snc Z d k j := (snc_y c_118).symm
        refine lv_aload hx hb dL_isPassed_121 (lv_at hl 12 rfl) ?_
        refine lv_bipush (v := nI 6) hx hb dL_isPassed_123 (by decide) ?_
        refine lv_iload hx hb dL_isPassed_125 (lv_at hl 0 rfl) ?_
        refine n_imul hx hb dL_isPassed_127 ?_
        refine lv_iload hx hb dL_isPassed_128 (lv_at hl 4 rfl) ?_
        refine n_iadd hx hb dL_isPassed_130 ?_
        refine y_ald X h (fun _ => rfl) (by decide) (hL (42, 0, 0, 0) ⟨by decide, rfl, rfl, rfl⟩) (by omega) (v := Z (42, 0, 0, 0) ((6 * j) + d)) (congrFun (LL_see (by decide)) _) dL_isPassed_131 ?_
        refine lv_goto (tgt := 136) hx hb dL_isPassed_132 (by decide) ?_
        rw [hsn]
        refine lv_istore (lv' := [(17, .int (snc Z d k j)), (16, .int (nI j)), (15, .int (bI (decide (1 < mstR Z d k m) && agC Z d k j))), (14, .int (nI (agN Z d k j))), (12, .int (nI k)), (11, .int (nI d)), (10, .int (nI gn)), (0, .ref (ad (0, 0, 0, 0))), (1, .ref (ad (35, 0, 0, 0))), (2, .ref (ad (37, 0, 0, 0))), (3, .ref (ad (39, 0, 0, 0))), (4, .ref (ad (43, 0, 0, 0))), (5, .ref (ad (41, 0, 0, 0))), (6, .ref (ad (42, 0, 0, 0))), (7, .ref (ad (40, 0, 0, 0))), (8, .ref (ad (45, 0, 0, 0))), (9, .int (nI x))]) hx hb dL_isPassed_136 hl (by decide) rfl (fun ls hl => ?_)
        refine lv_iload hx hb dL_isPassed_138 (lv_at hl 3 rfl) ?_
        refine lv_iload hx hb dL_isPassed_140 (lv_at hl 0 rfl) ?_
        refine lv_if_le (tgt := 149) hx hb dL_isPassed_142 (by decide) (fun c_142 => ?_) (fun c_142 => ?_)
        · skip
          have hcn : agN Z d k j + 0 = agN Z d k (j + 1) := (cntN_n (p := fun k9 => mo Z k k9 && kmk Z d k9) (snc_b.trans (decide_eq_false (le_not_lt c_142)))).symm
          refine lv_iconst (v := nI 0) hx hb dL_isPassed_149 (by decide) ?_
          refine n_iadd hx hb dL_isPassed_150 ?_
          rw [hcn]
          refine lv_istore (lv' := [(14, .int (nI (agN Z d k (j + 1)))), (17, .int (snc Z d k j)), (16, .int (nI j)), (15, .int (bI (decide (1 < mstR Z d k m) && agC Z d k j))), (12, .int (nI k)), (11, .int (nI d)), (10, .int (nI gn)), (0, .ref (ad (0, 0, 0, 0))), (1, .ref (ad (35, 0, 0, 0))), (2, .ref (ad (37, 0, 0, 0))), (3, .ref (ad (39, 0, 0, 0))), (4, .ref (ad (43, 0, 0, 0))), (5, .ref (ad (41, 0, 0, 0))), (6, .ref (ad (42, 0, 0, 0))), (7, .ref (ad (40, 0, 0, 0))), (8, .ref (ad (45, 0, 0, 0))), (9, .int (nI x))]) hx hb dL_isPassed_151 hl (by decide) rfl (fun ls hl => ?_)
          refine lv_iload hx hb dL_isPassed_153 (lv_at hl 3 rfl) ?_
          refine b_if_eq (tgt := 181) hx hb dL_isPassed_155 (by decide) (fun c_155 => ?_) (fun c_155 => ?_)
          · skip
            have hq : (decide (1 < mstR Z d k m) && agC Z d k (j + 1)) = false := ag_f c_155
            refine lv_iconst (v := nI 0) hx hb dL_isPassed_181 (by decide) ?_
            rw [lb_f hq]
            refine lv_istore (lv' := [(15, .int (bI (decide (1 < mstR Z d k m) && agC Z d k (j + 1)))), (14, .int (nI (agN Z d k (j + 1)))), (17, .int (snc Z d k j)), (16, .int (nI j)), (12, .int (nI k)), (11, .int (nI d)), (10, .int (nI gn)), (0, .ref (ad (0, 0, 0, 0))), (1, .ref (ad (35, 0, 0, 0))), (2, .ref (ad (37, 0, 0, 0))), (3, .ref (ad (39, 0, 0, 0))), (4, .ref (ad (43, 0, 0, 0))), (5, .ref (ad (41, 0, 0, 0))), (6, .ref (ad (42, 0, 0, 0))), (7, .ref (ad (40, 0, 0, 0))), (8, .ref (ad (45, 0, 0, 0))), (9, .int (nI x))]) hx hb dL_isPassed_182 hl (by decide) rfl (fun ls hl => ?_)
            refine n_iinc (j := j) (n := 1) (lv' := [(16, .int (nI (j + 1))), (15, .int (bI (decide (1 < mstR Z d k m) && agC Z d k (j + 1)))), (14, .int (nI (agN Z d k (j + 1)))), (17, .int (snc Z d k j)), (12, .int (nI k)), (11, .int (nI d)), (10, .int (nI gn)), (0, .ref (ad (0, 0, 0, 0))), (1, .ref (ad (35, 0, 0, 0))), (2, .ref (ad (37, 0, 0, 0))), (3, .ref (ad (39, 0, 0, 0))), (4, .ref (ad (43, 0, 0, 0))), (5, .ref (ad (41, 0, 0, 0))), (6, .ref (ad (42, 0, 0, 0))), (7, .ref (ad (40, 0, 0, 0))), (8, .ref (ad (45, 0, 0, 0))), (9, .int (nI x))]) hx hb dL_isPassed_184 hl (k := 3) rfl (by decide) (by decide) rfl (fun ls hl => ?_)
            refine lv_goto (tgt := 102) hx hb dL_isPassed_187 (by decide) ?_
            exact ih102 (j + 1) (by omega) (by omega) H locs ls (h.eq (congrArg (lay tc ad gm dz) rfl)) (lv_sub hl [0, 1, 2, 4, 5, 6, 7, 8, 9, 10, 11, 12, 13, 14, 15, 16] rfl)
          · skip
            refine lv_iload hx hb dL_isPassed_158 (lv_at hl 1 rfl) ?_
            refine lv_if_eq (tgt := 177) hx hb dL_isPassed_160 (by decide) (fun c_160 => ?_) (fun c_160 => ?_)
            · skip
              have hq : (decide (1 < mstR Z d k m) && agC Z d k (j + 1)) = true := by rw [snc_eq0 c_160]; exact c_155
              refine lv_iconst (v := nI 1) hx hb dL_isPassed_177 (by decide) ?_
              refine lv_goto (tgt := 182) hx hb dL_isPassed_178 (by decide) ?_
              rw [lb_t hq]
              refine lv_istore (lv' := [(15, .int (bI (decide (1 < mstR Z d k m) && agC Z d k (j + 1)))), (14, .int (nI (agN Z d k (j + 1)))), (17, .int (snc Z d k j)), (16, .int (nI j)), (12, .int (nI k)), (11, .int (nI d)), (10, .int (nI gn)), (0, .ref (ad (0, 0, 0, 0))), (1, .ref (ad (35, 0, 0, 0))), (2, .ref (ad (37, 0, 0, 0))), (3, .ref (ad (39, 0, 0, 0))), (4, .ref (ad (43, 0, 0, 0))), (5, .ref (ad (41, 0, 0, 0))), (6, .ref (ad (42, 0, 0, 0))), (7, .ref (ad (40, 0, 0, 0))), (8, .ref (ad (45, 0, 0, 0))), (9, .int (nI x))]) hx hb dL_isPassed_182 hl (by decide) rfl (fun ls hl => ?_)
              refine n_iinc (j := j) (n := 1) (lv' := [(16, .int (nI (j + 1))), (15, .int (bI (decide (1 < mstR Z d k m) && agC Z d k (j + 1)))), (14, .int (nI (agN Z d k (j + 1)))), (17, .int (snc Z d k j)), (12, .int (nI k)), (11, .int (nI d)), (10, .int (nI gn)), (0, .ref (ad (0, 0, 0, 0))), (1, .ref (ad (35, 0, 0, 0))), (2, .ref (ad (37, 0, 0, 0))), (3, .ref (ad (39, 0, 0, 0))), (4, .ref (ad (43, 0, 0, 0))), (5, .ref (ad (41, 0, 0, 0))), (6, .ref (ad (42, 0, 0, 0))), (7, .ref (ad (40, 0, 0, 0))), (8, .ref (ad (45, 0, 0, 0))), (9, .int (nI x))]) hx hb dL_isPassed_184 hl (k := 3) rfl (by decide) (by decide) rfl (fun ls hl => ?_)
              refine lv_goto (tgt := 102) hx hb dL_isPassed_187 (by decide) ?_
              exact ih102 (j + 1) (by omega) (by omega) H locs ls (h.eq (congrArg (lay tc ad gm dz) rfl)) (lv_sub hl [0, 1, 2, 4, 5, 6, 7, 8, 9, 10, 11, 12, 13, 14, 15, 16] rfl)
            · skip
              refine lv_aload hx hb dL_isPassed_163 (lv_at hl 15 rfl) ?_
              refine lv_iconst (v := nI 1) hx hb dL_isPassed_165 (by decide) ?_
              refine y_ald X h (fun _ => rfl) (by decide) (hL (45, 0, 0, 0) ⟨by decide, rfl, rfl, rfl⟩) (by omega) (v := nI t) (gc_1.trans hN.2.1) dL_isPassed_166 ?_
              refine lv_iconst (v := nI 1) hx hb dL_isPassed_167 (by decide) ?_
              refine n_iadd hx hb dL_isPassed_168 ?_
              refine lv_iload hx hb dL_isPassed_169 (lv_at hl 1 rfl) ?_
              refine lv_isub hx hb dL_isPassed_171 ?_
              refine lv_bipush (v := nI 12) hx hb dL_isPassed_172 (by decide) ?_
              refine lv_icmp_le (tgt := 181) hx hb dL_isPassed_174 (by decide) (fun c_174 => ?_) (fun c_174 => ?_)
              · skip
                have hq : (decide (1 < mstR Z d k m) && agC Z d k (j + 1)) = false := by rw [ag_s hZ.tr hN.2.1 c_160, decide_eq_true c_174, Bool.not_true, Bool.and_false, Bool.and_false]
                refine lv_iconst (v := nI 0) hx hb dL_isPassed_181 (by decide) ?_
                rw [lb_f hq]
                refine lv_istore (lv' := [(15, .int (bI (decide (1 < mstR Z d k m) && agC Z d k (j + 1)))), (14, .int (nI (agN Z d k (j + 1)))), (17, .int (snc Z d k j)), (16, .int (nI j)), (12, .int (nI k)), (11, .int (nI d)), (10, .int (nI gn)), (0, .ref (ad (0, 0, 0, 0))), (1, .ref (ad (35, 0, 0, 0))), (2, .ref (ad (37, 0, 0, 0))), (3, .ref (ad (39, 0, 0, 0))), (4, .ref (ad (43, 0, 0, 0))), (5, .ref (ad (41, 0, 0, 0))), (6, .ref (ad (42, 0, 0, 0))), (7, .ref (ad (40, 0, 0, 0))), (8, .ref (ad (45, 0, 0, 0))), (9, .int (nI x))]) hx hb dL_isPassed_182 hl (by decide) rfl (fun ls hl => ?_)
                refine n_iinc (j := j) (n := 1) (lv' := [(16, .int (nI (j + 1))), (15, .int (bI (decide (1 < mstR Z d k m) && agC Z d k (j + 1)))), (14, .int (nI (agN Z d k (j + 1)))), (17, .int (snc Z d k j)), (12, .int (nI k)), (11, .int (nI d)), (10, .int (nI gn)), (0, .ref (ad (0, 0, 0, 0))), (1, .ref (ad (35, 0, 0, 0))), (2, .ref (ad (37, 0, 0, 0))), (3, .ref (ad (39, 0, 0, 0))), (4, .ref (ad (43, 0, 0, 0))), (5, .ref (ad (41, 0, 0, 0))), (6, .ref (ad (42, 0, 0, 0))), (7, .ref (ad (40, 0, 0, 0))), (8, .ref (ad (45, 0, 0, 0))), (9, .int (nI x))]) hx hb dL_isPassed_184 hl (k := 3) rfl (by decide) (by decide) rfl (fun ls hl => ?_)
                refine lv_goto (tgt := 102) hx hb dL_isPassed_187 (by decide) ?_
                exact ih102 (j + 1) (by omega) (by omega) H locs ls (h.eq (congrArg (lay tc ad gm dz) rfl)) (lv_sub hl [0, 1, 2, 4, 5, 6, 7, 8, 9, 10, 11, 12, 13, 14, 15, 16] rfl)
              · skip
                have hq : (decide (1 < mstR Z d k m) && agC Z d k (j + 1)) = true := by rw [ag_s hZ.tr hN.2.1 c_160, decide_eq_false c_174, Bool.not_false, Bool.and_true]; exact c_155
                refine lv_iconst (v := nI 1) hx hb dL_isPassed_177 (by decide) ?_
                refine lv_goto (tgt := 182) hx hb dL_isPassed_178 (by decide) ?_
                rw [lb_t hq]
                refine lv_istore (lv' := [(15, .int (bI (decide (1 < mstR Z d k m) && agC Z d k (j + 1)))), (14, .int (nI (agN Z d k (j + 1)))), (17, .int (snc Z d k j)), (16, .int (nI j)), (12, .int (nI k)), (11, .int (nI d)), (10, .int (nI gn)), (0, .ref (ad (0, 0, 0, 0))), (1, .ref (ad (35, 0, 0, 0))), (2, .ref (ad (37, 0, 0, 0))), (3, .ref (ad (39, 0, 0, 0))), (4, .ref (ad (43, 0, 0, 0))), (5, .ref (ad (41, 0, 0, 0))), (6, .ref (ad (42, 0, 0, 0))), (7, .ref (ad (40, 0, 0, 0))), (8, .ref (ad (45, 0, 0, 0))), (9, .int (nI x))]) hx hb dL_isPassed_182 hl (by decide) rfl (fun ls hl => ?_)
                refine n_iinc (j := j) (n := 1) (lv' := [(16, .int (nI (j + 1))), (15, .int (bI (decide (1 < mstR Z d k m) && agC Z d k (j + 1)))), (14, .int (nI (agN Z d k (j + 1)))), (17, .int (snc Z d k j)), (12, .int (nI k)), (11, .int (nI d)), (10, .int (nI gn)), (0, .ref (ad (0, 0, 0, 0))), (1, .ref (ad (35, 0, 0, 0))), (2, .ref (ad (37, 0, 0, 0))), (3, .ref (ad (39, 0, 0, 0))), (4, .ref (ad (43, 0, 0, 0))), (5, .ref (ad (41, 0, 0, 0))), (6, .ref (ad (42, 0, 0, 0))), (7, .ref (ad (40, 0, 0, 0))), (8, .ref (ad (45, 0, 0, 0))), (9, .int (nI x))]) hx hb dL_isPassed_184 hl (k := 3) rfl (by decide) (by decide) rfl (fun ls hl => ?_)
                refine lv_goto (tgt := 102) hx hb dL_isPassed_187 (by decide) ?_
                exact ih102 (j + 1) (by omega) (by omega) H locs ls (h.eq (congrArg (lay tc ad gm dz) rfl)) (lv_sub hl [0, 1, 2, 4, 5, 6, 7, 8, 9, 10, 11, 12, 13, 14, 15, 16] rfl)
        · skip
          have hcn : agN Z d k j + 1 = agN Z d k (j + 1) := (cntN_y (p := fun k9 => mo Z k k9 && kmk Z d k9) (snc_b.trans (decide_eq_true (not_le_lt c_142)))).symm
          refine lv_iconst (v := nI 1) hx hb dL_isPassed_145 (by decide) ?_
          refine lv_goto (tgt := 150) hx hb dL_isPassed_146 (by decide) ?_
          refine n_iadd hx hb dL_isPassed_150 ?_
          rw [hcn]
          refine lv_istore (lv' := [(14, .int (nI (agN Z d k (j + 1)))), (17, .int (snc Z d k j)), (16, .int (nI j)), (15, .int (bI (decide (1 < mstR Z d k m) && agC Z d k j))), (12, .int (nI k)), (11, .int (nI d)), (10, .int (nI gn)), (0, .ref (ad (0, 0, 0, 0))), (1, .ref (ad (35, 0, 0, 0))), (2, .ref (ad (37, 0, 0, 0))), (3, .ref (ad (39, 0, 0, 0))), (4, .ref (ad (43, 0, 0, 0))), (5, .ref (ad (41, 0, 0, 0))), (6, .ref (ad (42, 0, 0, 0))), (7, .ref (ad (40, 0, 0, 0))), (8, .ref (ad (45, 0, 0, 0))), (9, .int (nI x))]) hx hb dL_isPassed_151 hl (by decide) rfl (fun ls hl => ?_)
          refine lv_iload hx hb dL_isPassed_153 (lv_at hl 3 rfl) ?_
          refine b_if_eq (tgt := 181) hx hb dL_isPassed_155 (by decide) (fun c_155 => ?_) (fun c_155 => ?_)
          · skip
            have hq : (decide (1 < mstR Z d k m) && agC Z d k (j + 1)) = false := ag_f c_155
            refine lv_iconst (v := nI 0) hx hb dL_isPassed_181 (by decide) ?_
            rw [lb_f hq]
            refine lv_istore (lv' := [(15, .int (bI (decide (1 < mstR Z d k m) && agC Z d k (j + 1)))), (14, .int (nI (agN Z d k (j + 1)))), (17, .int (snc Z d k j)), (16, .int (nI j)), (12, .int (nI k)), (11, .int (nI d)), (10, .int (nI gn)), (0, .ref (ad (0, 0, 0, 0))), (1, .ref (ad (35, 0, 0, 0))), (2, .ref (ad (37, 0, 0, 0))), (3, .ref (ad (39, 0, 0, 0))), (4, .ref (ad (43, 0, 0, 0))), (5, .ref (ad (41, 0, 0, 0))), (6, .ref (ad (42, 0, 0, 0))), (7, .ref (ad (40, 0, 0, 0))), (8, .ref (ad (45, 0, 0, 0))), (9, .int (nI x))]) hx hb dL_isPassed_182 hl (by decide) rfl (fun ls hl => ?_)
            refine n_iinc (j := j) (n := 1) (lv' := [(16, .int (nI (j + 1))), (15, .int (bI (decide (1 < mstR Z d k m) && agC Z d k (j + 1)))), (14, .int (nI (agN Z d k (j + 1)))), (17, .int (snc Z d k j)), (12, .int (nI k)), (11, .int (nI d)), (10, .int (nI gn)), (0, .ref (ad (0, 0, 0, 0))), (1, .ref (ad (35, 0, 0, 0))), (2, .ref (ad (37, 0, 0, 0))), (3, .ref (ad (39, 0, 0, 0))), (4, .ref (ad (43, 0, 0, 0))), (5, .ref (ad (41, 0, 0, 0))), (6, .ref (ad (42, 0, 0, 0))), (7, .ref (ad (40, 0, 0, 0))), (8, .ref (ad (45, 0, 0, 0))), (9, .int (nI x))]) hx hb dL_isPassed_184 hl (k := 3) rfl (by decide) (by decide) rfl (fun ls hl => ?_)
            refine lv_goto (tgt := 102) hx hb dL_isPassed_187 (by decide) ?_
            exact ih102 (j + 1) (by omega) (by omega) H locs ls (h.eq (congrArg (lay tc ad gm dz) rfl)) (lv_sub hl [0, 1, 2, 4, 5, 6, 7, 8, 9, 10, 11, 12, 13, 14, 15, 16] rfl)
          · skip
            refine lv_iload hx hb dL_isPassed_158 (lv_at hl 1 rfl) ?_
            refine lv_if_eq (tgt := 177) hx hb dL_isPassed_160 (by decide) (fun c_160 => ?_) (fun c_160 => ?_)
            · skip
              have hq : (decide (1 < mstR Z d k m) && agC Z d k (j + 1)) = true := by rw [snc_eq0 c_160]; exact c_155
              refine lv_iconst (v := nI 1) hx hb dL_isPassed_177 (by decide) ?_
              refine lv_goto (tgt := 182) hx hb dL_isPassed_178 (by decide) ?_
              rw [lb_t hq]
              refine lv_istore (lv' := [(15, .int (bI (decide (1 < mstR Z d k m) && agC Z d k (j + 1)))), (14, .int (nI (agN Z d k (j + 1)))), (17, .int (snc Z d k j)), (16, .int (nI j)), (12, .int (nI k)), (11, .int (nI d)), (10, .int (nI gn)), (0, .ref (ad (0, 0, 0, 0))), (1, .ref (ad (35, 0, 0, 0))), (2, .ref (ad (37, 0, 0, 0))), (3, .ref (ad (39, 0, 0, 0))), (4, .ref (ad (43, 0, 0, 0))), (5, .ref (ad (41, 0, 0, 0))), (6, .ref (ad (42, 0, 0, 0))), (7, .ref (ad (40, 0, 0, 0))), (8, .ref (ad (45, 0, 0, 0))), (9, .int (nI x))]) hx hb dL_isPassed_182 hl (by decide) rfl (fun ls hl => ?_)
              refine n_iinc (j := j) (n := 1) (lv' := [(16, .int (nI (j + 1))), (15, .int (bI (decide (1 < mstR Z d k m) && agC Z d k (j + 1)))), (14, .int (nI (agN Z d k (j + 1)))), (17, .int (snc Z d k j)), (12, .int (nI k)), (11, .int (nI d)), (10, .int (nI gn)), (0, .ref (ad (0, 0, 0, 0))), (1, .ref (ad (35, 0, 0, 0))), (2, .ref (ad (37, 0, 0, 0))), (3, .ref (ad (39, 0, 0, 0))), (4, .ref (ad (43, 0, 0, 0))), (5, .ref (ad (41, 0, 0, 0))), (6, .ref (ad (42, 0, 0, 0))), (7, .ref (ad (40, 0, 0, 0))), (8, .ref (ad (45, 0, 0, 0))), (9, .int (nI x))]) hx hb dL_isPassed_184 hl (k := 3) rfl (by decide) (by decide) rfl (fun ls hl => ?_)
              refine lv_goto (tgt := 102) hx hb dL_isPassed_187 (by decide) ?_
              exact ih102 (j + 1) (by omega) (by omega) H locs ls (h.eq (congrArg (lay tc ad gm dz) rfl)) (lv_sub hl [0, 1, 2, 4, 5, 6, 7, 8, 9, 10, 11, 12, 13, 14, 15, 16] rfl)
            · skip
              refine lv_aload hx hb dL_isPassed_163 (lv_at hl 15 rfl) ?_
              refine lv_iconst (v := nI 1) hx hb dL_isPassed_165 (by decide) ?_
              refine y_ald X h (fun _ => rfl) (by decide) (hL (45, 0, 0, 0) ⟨by decide, rfl, rfl, rfl⟩) (by omega) (v := nI t) (gc_1.trans hN.2.1) dL_isPassed_166 ?_
              refine lv_iconst (v := nI 1) hx hb dL_isPassed_167 (by decide) ?_
              refine n_iadd hx hb dL_isPassed_168 ?_
              refine lv_iload hx hb dL_isPassed_169 (lv_at hl 1 rfl) ?_
              refine lv_isub hx hb dL_isPassed_171 ?_
              refine lv_bipush (v := nI 12) hx hb dL_isPassed_172 (by decide) ?_
              refine lv_icmp_le (tgt := 181) hx hb dL_isPassed_174 (by decide) (fun c_174 => ?_) (fun c_174 => ?_)
              · skip
                have hq : (decide (1 < mstR Z d k m) && agC Z d k (j + 1)) = false := by rw [ag_s hZ.tr hN.2.1 c_160, decide_eq_true c_174, Bool.not_true, Bool.and_false, Bool.and_false]
                refine lv_iconst (v := nI 0) hx hb dL_isPassed_181 (by decide) ?_
                rw [lb_f hq]
                refine lv_istore (lv' := [(15, .int (bI (decide (1 < mstR Z d k m) && agC Z d k (j + 1)))), (14, .int (nI (agN Z d k (j + 1)))), (17, .int (snc Z d k j)), (16, .int (nI j)), (12, .int (nI k)), (11, .int (nI d)), (10, .int (nI gn)), (0, .ref (ad (0, 0, 0, 0))), (1, .ref (ad (35, 0, 0, 0))), (2, .ref (ad (37, 0, 0, 0))), (3, .ref (ad (39, 0, 0, 0))), (4, .ref (ad (43, 0, 0, 0))), (5, .ref (ad (41, 0, 0, 0))), (6, .ref (ad (42, 0, 0, 0))), (7, .ref (ad (40, 0, 0, 0))), (8, .ref (ad (45, 0, 0, 0))), (9, .int (nI x))]) hx hb dL_isPassed_182 hl (by decide) rfl (fun ls hl => ?_)
                refine n_iinc (j := j) (n := 1) (lv' := [(16, .int (nI (j + 1))), (15, .int (bI (decide (1 < mstR Z d k m) && agC Z d k (j + 1)))), (14, .int (nI (agN Z d k (j + 1)))), (17, .int (snc Z d k j)), (12, .int (nI k)), (11, .int (nI d)), (10, .int (nI gn)), (0, .ref (ad (0, 0, 0, 0))), (1, .ref (ad (35, 0, 0, 0))), (2, .ref (ad (37, 0, 0, 0))), (3, .ref (ad (39, 0, 0, 0))), (4, .ref (ad (43, 0, 0, 0))), (5, .ref (ad (41, 0, 0, 0))), (6, .ref (ad (42, 0, 0, 0))), (7, .ref (ad (40, 0, 0, 0))), (8, .ref (ad (45, 0, 0, 0))), (9, .int (nI x))]) hx hb dL_isPassed_184 hl (k := 3) rfl (by decide) (by decide) rfl (fun ls hl => ?_)
                refine lv_goto (tgt := 102) hx hb dL_isPassed_187 (by decide) ?_
                exact ih102 (j + 1) (by omega) (by omega) H locs ls (h.eq (congrArg (lay tc ad gm dz) rfl)) (lv_sub hl [0, 1, 2, 4, 5, 6, 7, 8, 9, 10, 11, 12, 13, 14, 15, 16] rfl)
              · skip
                have hq : (decide (1 < mstR Z d k m) && agC Z d k (j + 1)) = true := by rw [ag_s hZ.tr hN.2.1 c_160, decide_eq_false c_174, Bool.not_false, Bool.and_true]; exact c_155
                refine lv_iconst (v := nI 1) hx hb dL_isPassed_177 (by decide) ?_
                refine lv_goto (tgt := 182) hx hb dL_isPassed_178 (by decide) ?_
                rw [lb_t hq]
                refine lv_istore (lv' := [(15, .int (bI (decide (1 < mstR Z d k m) && agC Z d k (j + 1)))), (14, .int (nI (agN Z d k (j + 1)))), (17, .int (snc Z d k j)), (16, .int (nI j)), (12, .int (nI k)), (11, .int (nI d)), (10, .int (nI gn)), (0, .ref (ad (0, 0, 0, 0))), (1, .ref (ad (35, 0, 0, 0))), (2, .ref (ad (37, 0, 0, 0))), (3, .ref (ad (39, 0, 0, 0))), (4, .ref (ad (43, 0, 0, 0))), (5, .ref (ad (41, 0, 0, 0))), (6, .ref (ad (42, 0, 0, 0))), (7, .ref (ad (40, 0, 0, 0))), (8, .ref (ad (45, 0, 0, 0))), (9, .int (nI x))]) hx hb dL_isPassed_182 hl (by decide) rfl (fun ls hl => ?_)
                refine n_iinc (j := j) (n := 1) (lv' := [(16, .int (nI (j + 1))), (15, .int (bI (decide (1 < mstR Z d k m) && agC Z d k (j + 1)))), (14, .int (nI (agN Z d k (j + 1)))), (17, .int (snc Z d k j)), (12, .int (nI k)), (11, .int (nI d)), (10, .int (nI gn)), (0, .ref (ad (0, 0, 0, 0))), (1, .ref (ad (35, 0, 0, 0))), (2, .ref (ad (37, 0, 0, 0))), (3, .ref (ad (39, 0, 0, 0))), (4, .ref (ad (43, 0, 0, 0))), (5, .ref (ad (41, 0, 0, 0))), (6, .ref (ad (42, 0, 0, 0))), (7, .ref (ad (40, 0, 0, 0))), (8, .ref (ad (45, 0, 0, 0))), (9, .int (nI x))]) hx hb dL_isPassed_184 hl (k := 3) rfl (by decide) (by decide) rfl (fun ls hl => ?_)
                refine lv_goto (tgt := 102) hx hb dL_isPassed_187 (by decide) ?_
                exact ih102 (j + 1) (by omega) (by omega) H locs ls (h.eq (congrArg (lay tc ad gm dz) rfl)) (lv_sub hl [0, 1, 2, 4, 5, 6, 7, 8, 9, 10, 11, 12, 13, 14, 15, 16] rfl)
  · skip
    have hq : (decide (1 < mstR Z d k m) && agC Z d k 0) = true := by rw [decide_eq_true (by omega)]; rfl
    refine lv_iconst (v := nI 1) hx hb dL_isPassed_92 (by decide) ?_
    refine lv_goto (tgt := 97) hx hb dL_isPassed_93 (by decide) ?_
    rw [lb_t hq]
    refine lv_istore (lv' := [(15, .int (bI (decide (1 < mstR Z d k m) && agC Z d k 0))), (14, .int (nI 0)), (13, .int (nI (mstR Z d k m))), (12, .int (nI k)), (11, .int (nI d)), (10, .int (nI gn)), (0, .ref (ad (0, 0, 0, 0))), (1, .ref (ad (35, 0, 0, 0))), (2, .ref (ad (37, 0, 0, 0))), (3, .ref (ad (39, 0, 0, 0))), (4, .ref (ad (43, 0, 0, 0))), (5, .ref (ad (41, 0, 0, 0))), (6, .ref (ad (42, 0, 0, 0))), (7, .ref (ad (40, 0, 0, 0))), (8, .ref (ad (45, 0, 0, 0))), (9, .int (nI x))]) hx hb dL_isPassed_97 hl (by decide) rfl (fun ls hl => ?_)
    refine lv_iconst (v := nI 0) hx hb dL_isPassed_99 (by decide) ?_
    refine lv_istore (lv' := [(16, .int (nI 0)), (15, .int (bI (decide (1 < mstR Z d k m) && agC Z d k 0))), (14, .int (nI 0)), (13, .int (nI (mstR Z d k m))), (12, .int (nI k)), (11, .int (nI d)), (10, .int (nI gn)), (0, .ref (ad (0, 0, 0, 0))), (1, .ref (ad (35, 0, 0, 0))), (2, .ref (ad (37, 0, 0, 0))), (3, .ref (ad (39, 0, 0, 0))), (4, .ref (ad (43, 0, 0, 0))), (5, .ref (ad (41, 0, 0, 0))), (6, .ref (ad (42, 0, 0, 0))), (7, .ref (ad (40, 0, 0, 0))), (8, .ref (ad (45, 0, 0, 0))), (9, .int (nI x))]) hx hb dL_isPassed_100 hl (by decide) rfl (fun ls hl => ?_)
    refine y_loop (D := D) (A := A) (ad := ad) (Ks := Ks) (nL := 18) (fun j : Nat => lay tc ad gm dz (LL Z)) (fun j => [(16, .int (nI j)), (15, .int (bI (decide (1 < mstR Z d k m) && agC Z d k j))), (14, .int (nI (agN Z d k j))), (12, .int (nI k)), (11, .int (nI d)), (10, .int (nI gn)), (0, .ref (ad (0, 0, 0, 0))), (1, .ref (ad (35, 0, 0, 0))), (2, .ref (ad (37, 0, 0, 0))), (3, .ref (ad (39, 0, 0, 0))), (4, .ref (ad (43, 0, 0, 0))), (5, .ref (ad (41, 0, 0, 0))), (6, .ref (ad (42, 0, 0, 0))), (7, .ref (ad (40, 0, 0, 0))), (8, .ref (ad (45, 0, 0, 0))), (9, .int (nI x))]) (fun _ => []) (fun j : Nat => j ≤ m) (fun j => m - j) (fun j hi102 ih102 H locs ls h hl => ?_) 0 (Nat.zero_le _) (h.eq (congrArg (lay tc ad gm dz) rfl)) (lv_sub hl [0, 1, 2, 4, 5, 6, 7, 8, 9, 10, 11, 12, 13, 14, 15, 16] rfl) rfl
    have h : Sx D A ad Ks (lay tc ad gm dz (LL Z)) s H locs := h
    have hl : lv_has ls 18 [(16, .int (nI j)), (15, .int (bI (decide (1 < mstR Z d k m) && agC Z d k j))), (14, .int (nI (agN Z d k j))), (12, .int (nI k)), (11, .int (nI d)), (10, .int (nI gn)), (0, .ref (ad (0, 0, 0, 0))), (1, .ref (ad (35, 0, 0, 0))), (2, .ref (ad (37, 0, 0, 0))), (3, .ref (ad (39, 0, 0, 0))), (4, .ref (ad (43, 0, 0, 0))), (5, .ref (ad (41, 0, 0, 0))), (6, .ref (ad (42, 0, 0, 0))), (7, .ref (ad (40, 0, 0, 0))), (8, .ref (ad (45, 0, 0, 0))), (9, .int (nI x))] := hl
    refine lv_iload hx hb dL_isPassed_102 (lv_at hl 0 rfl) ?_
    refine lv_aload hx hb dL_isPassed_104 (lv_at hl 14 rfl) ?_
    refine lv_iconst (v := nI 2) hx hb dL_isPassed_106 (by decide) ?_
    refine y_ald X h (fun _ => rfl) (by decide) (hL (45, 0, 0, 0) ⟨by decide, rfl, rfl, rfl⟩) (by omega) (v := nI m) (gc_2.trans hN.2.2) dL_isPassed_107 ?_
    refine n_icmp_ge (tgt := 190) hx hb (by omega) (by omega) dL_isPassed_108 (by decide) (fun c_108 => ?_) (fun c_108 => ?_)
    · skip
      have him : j = m := by omega
      rw [him] at hl
      exact kk H locs ls h (lv_sub hl [1, 2, 3, 4, 5, 6, 7, 8, 9, 10, 11, 12, 13, 14, 15] rfl)
    · skip
      refine lv_aload hx hb dL_isPassed_111 (lv_at hl 13 rfl) ?_
      refine lv_iload hx hb dL_isPassed_113 (lv_at hl 0 rfl) ?_
      refine y_ald X h (fun _ => rfl) (by decide) (hL (40, 0, 0, 0) ⟨by decide, rfl, rfl, rfl⟩) (by omega) (v := Z (40, 0, 0, 0) j) (congrFun (LL_see (by decide)) _) dL_isPassed_115 ?_
      refine lv_iload hx hb dL_isPassed_116 (lv_at hl 3 rfl) ?_
      refine lv_icmp_ne (tgt := 135) hx hb dL_isPassed_118 (by decide) (fun c_118 => ?_) (fun c_118 => ?_)
      · skip
        have hsn : nI 0 = snc Z d k j := (snc_n c_118).symm
        refine lv_iconst (v := nI 0) hx hb dL_isPassed_135 (by decide) ?_
        rw [hsn]
        refine lv_istore (lv' := [(17, .int (snc Z d k j)), (16, .int (nI j)), (15, .int (bI (decide (1 < mstR Z d k m) && agC Z d k j))), (14, .int (nI (agN Z d k j))), (12, .int (nI k)), (11, .int (nI d)), (10, .int (nI gn)), (0, .ref (ad (0, 0, 0, 0))), (1, .ref (ad (35, 0, 0, 0))), (2, .ref (ad (37, 0, 0, 0))), (3, .ref (ad (39, 0, 0, 0))), (4, .ref (ad (43, 0, 0, 0))), (5, .ref (ad (41, 0, 0, 0))), (6, .ref (ad (42, 0, 0, 0))), (7, .ref (ad (40, 0, 0, 0))), (8, .ref (ad (45, 0, 0, 0))), (9, .int (nI x))]) hx hb dL_isPassed_136 hl (by decide) rfl (fun ls hl => ?_)
        refine lv_iload hx hb dL_isPassed_138 (lv_at hl 3 rfl) ?_
        refine lv_iload hx hb dL_isPassed_140 (lv_at hl 0 rfl) ?_
        refine lv_if_le (tgt := 149) hx hb dL_isPassed_142 (by decide) (fun c_142 => ?_) (fun c_142 => ?_)
        · skip
          have hcn : agN Z d k j + 0 = agN Z d k (j + 1) := (cntN_n (p := fun k9 => mo Z k k9 && kmk Z d k9) (snc_b.trans (decide_eq_false (le_not_lt c_142)))).symm
          refine lv_iconst (v := nI 0) hx hb dL_isPassed_149 (by decide) ?_
          refine n_iadd hx hb dL_isPassed_150 ?_
          rw [hcn]
          refine lv_istore (lv' := [(14, .int (nI (agN Z d k (j + 1)))), (17, .int (snc Z d k j)), (16, .int (nI j)), (15, .int (bI (decide (1 < mstR Z d k m) && agC Z d k j))), (12, .int (nI k)), (11, .int (nI d)), (10, .int (nI gn)), (0, .ref (ad (0, 0, 0, 0))), (1, .ref (ad (35, 0, 0, 0))), (2, .ref (ad (37, 0, 0, 0))), (3, .ref (ad (39, 0, 0, 0))), (4, .ref (ad (43, 0, 0, 0))), (5, .ref (ad (41, 0, 0, 0))), (6, .ref (ad (42, 0, 0, 0))), (7, .ref (ad (40, 0, 0, 0))), (8, .ref (ad (45, 0, 0, 0))), (9, .int (nI x))]) hx hb dL_isPassed_151 hl (by decide) rfl (fun ls hl => ?_)
          refine lv_iload hx hb dL_isPassed_153 (lv_at hl 3 rfl) ?_
          refine b_if_eq (tgt := 181) hx hb dL_isPassed_155 (by decide) (fun c_155 => ?_) (fun c_155 => ?_)
          · skip
            have hq : (decide (1 < mstR Z d k m) && agC Z d k (j + 1)) = false := ag_f c_155
            refine lv_iconst (v := nI 0) hx hb dL_isPassed_181 (by decide) ?_
            rw [lb_f hq]
            refine lv_istore (lv' := [(15, .int (bI (decide (1 < mstR Z d k m) && agC Z d k (j + 1)))), (14, .int (nI (agN Z d k (j + 1)))), (17, .int (snc Z d k j)), (16, .int (nI j)), (12, .int (nI k)), (11, .int (nI d)), (10, .int (nI gn)), (0, .ref (ad (0, 0, 0, 0))), (1, .ref (ad (35, 0, 0, 0))), (2, .ref (ad (37, 0, 0, 0))), (3, .ref (ad (39, 0, 0, 0))), (4, .ref (ad (43, 0, 0, 0))), (5, .ref (ad (41, 0, 0, 0))), (6, .ref (ad (42, 0, 0, 0))), (7, .ref (ad (40, 0, 0, 0))), (8, .ref (ad (45, 0, 0, 0))), (9, .int (nI x))]) hx hb dL_isPassed_182 hl (by decide) rfl (fun ls hl => ?_)
            refine n_iinc (j := j) (n := 1) (lv' := [(16, .int (nI (j + 1))), (15, .int (bI (decide (1 < mstR Z d k m) && agC Z d k (j + 1)))), (14, .int (nI (agN Z d k (j + 1)))), (17, .int (snc Z d k j)), (12, .int (nI k)), (11, .int (nI d)), (10, .int (nI gn)), (0, .ref (ad (0, 0, 0, 0))), (1, .ref (ad (35, 0, 0, 0))), (2, .ref (ad (37, 0, 0, 0))), (3, .ref (ad (39, 0, 0, 0))), (4, .ref (ad (43, 0, 0, 0))), (5, .ref (ad (41, 0, 0, 0))), (6, .ref (ad (42, 0, 0, 0))), (7, .ref (ad (40, 0, 0, 0))), (8, .ref (ad (45, 0, 0, 0))), (9, .int (nI x))]) hx hb dL_isPassed_184 hl (k := 3) rfl (by decide) (by decide) rfl (fun ls hl => ?_)
            refine lv_goto (tgt := 102) hx hb dL_isPassed_187 (by decide) ?_
            exact ih102 (j + 1) (by omega) (by omega) H locs ls (h.eq (congrArg (lay tc ad gm dz) rfl)) (lv_sub hl [0, 1, 2, 4, 5, 6, 7, 8, 9, 10, 11, 12, 13, 14, 15, 16] rfl)
          · skip
            refine lv_iload hx hb dL_isPassed_158 (lv_at hl 1 rfl) ?_
            refine lv_if_eq (tgt := 177) hx hb dL_isPassed_160 (by decide) (fun c_160 => ?_) (fun c_160 => ?_)
            · skip
              have hq : (decide (1 < mstR Z d k m) && agC Z d k (j + 1)) = true := by rw [snc_eq0 c_160]; exact c_155
              refine lv_iconst (v := nI 1) hx hb dL_isPassed_177 (by decide) ?_
              refine lv_goto (tgt := 182) hx hb dL_isPassed_178 (by decide) ?_
              rw [lb_t hq]
              refine lv_istore (lv' := [(15, .int (bI (decide (1 < mstR Z d k m) && agC Z d k (j + 1)))), (14, .int (nI (agN Z d k (j + 1)))), (17, .int (snc Z d k j)), (16, .int (nI j)), (12, .int (nI k)), (11, .int (nI d)), (10, .int (nI gn)), (0, .ref (ad (0, 0, 0, 0))), (1, .ref (ad (35, 0, 0, 0))), (2, .ref (ad (37, 0, 0, 0))), (3, .ref (ad (39, 0, 0, 0))), (4, .ref (ad (43, 0, 0, 0))), (5, .ref (ad (41, 0, 0, 0))), (6, .ref (ad (42, 0, 0, 0))), (7, .ref (ad (40, 0, 0, 0))), (8, .ref (ad (45, 0, 0, 0))), (9, .int (nI x))]) hx hb dL_isPassed_182 hl (by decide) rfl (fun ls hl => ?_)
              refine n_iinc (j := j) (n := 1) (lv' := [(16, .int (nI (j + 1))), (15, .int (bI (decide (1 < mstR Z d k m) && agC Z d k (j + 1)))), (14, .int (nI (agN Z d k (j + 1)))), (17, .int (snc Z d k j)), (12, .int (nI k)), (11, .int (nI d)), (10, .int (nI gn)), (0, .ref (ad (0, 0, 0, 0))), (1, .ref (ad (35, 0, 0, 0))), (2, .ref (ad (37, 0, 0, 0))), (3, .ref (ad (39, 0, 0, 0))), (4, .ref (ad (43, 0, 0, 0))), (5, .ref (ad (41, 0, 0, 0))), (6, .ref (ad (42, 0, 0, 0))), (7, .ref (ad (40, 0, 0, 0))), (8, .ref (ad (45, 0, 0, 0))), (9, .int (nI x))]) hx hb dL_isPassed_184 hl (k := 3) rfl (by decide) (by decide) rfl (fun ls hl => ?_)
              refine lv_goto (tgt := 102) hx hb dL_isPassed_187 (by decide) ?_
              exact ih102 (j + 1) (by omega) (by omega) H locs ls (h.eq (congrArg (lay tc ad gm dz) rfl)) (lv_sub hl [0, 1, 2, 4, 5, 6, 7, 8, 9, 10, 11, 12, 13, 14, 15, 16] rfl)
            · skip
              refine lv_aload hx hb dL_isPassed_163 (lv_at hl 15 rfl) ?_
              refine lv_iconst (v := nI 1) hx hb dL_isPassed_165 (by decide) ?_
              refine y_ald X h (fun _ => rfl) (by decide) (hL (45, 0, 0, 0) ⟨by decide, rfl, rfl, rfl⟩) (by omega) (v := nI t) (gc_1.trans hN.2.1) dL_isPassed_166 ?_
              refine lv_iconst (v := nI 1) hx hb dL_isPassed_167 (by decide) ?_
              refine n_iadd hx hb dL_isPassed_168 ?_
              refine lv_iload hx hb dL_isPassed_169 (lv_at hl 1 rfl) ?_
              refine lv_isub hx hb dL_isPassed_171 ?_
              refine lv_bipush (v := nI 12) hx hb dL_isPassed_172 (by decide) ?_
              refine lv_icmp_le (tgt := 181) hx hb dL_isPassed_174 (by decide) (fun c_174 => ?_) (fun c_174 => ?_)
              · skip
                have hq : (decide (1 < mstR Z d k m) && agC Z d k (j + 1)) = false := by rw [ag_s hZ.tr hN.2.1 c_160, decide_eq_true c_174, Bool.not_true, Bool.and_false, Bool.and_false]
                refine lv_iconst (v := nI 0) hx hb dL_isPassed_181 (by decide) ?_
                rw [lb_f hq]
                refine lv_istore (lv' := [(15, .int (bI (decide (1 < mstR Z d k m) && agC Z d k (j + 1)))), (14, .int (nI (agN Z d k (j + 1)))), (17, .int (snc Z d k j)), (16, .int (nI j)), (12, .int (nI k)), (11, .int (nI d)), (10, .int (nI gn)), (0, .ref (ad (0, 0, 0, 0))), (1, .ref (ad (35, 0, 0, 0))), (2, .ref (ad (37, 0, 0, 0))), (3, .ref (ad (39, 0, 0, 0))), (4, .ref (ad (43, 0, 0, 0))), (5, .ref (ad (41, 0, 0, 0))), (6, .ref (ad (42, 0, 0, 0))), (7, .ref (ad (40, 0, 0, 0))), (8, .ref (ad (45, 0, 0, 0))), (9, .int (nI x))]) hx hb dL_isPassed_182 hl (by decide) rfl (fun ls hl => ?_)
                refine n_iinc (j := j) (n := 1) (lv' := [(16, .int (nI (j + 1))), (15, .int (bI (decide (1 < mstR Z d k m) && agC Z d k (j + 1)))), (14, .int (nI (agN Z d k (j + 1)))), (17, .int (snc Z d k j)), (12, .int (nI k)), (11, .int (nI d)), (10, .int (nI gn)), (0, .ref (ad (0, 0, 0, 0))), (1, .ref (ad (35, 0, 0, 0))), (2, .ref (ad (37, 0, 0, 0))), (3, .ref (ad (39, 0, 0, 0))), (4, .ref (ad (43, 0, 0, 0))), (5, .ref (ad (41, 0, 0, 0))), (6, .ref (ad (42, 0, 0, 0))), (7, .ref (ad (40, 0, 0, 0))), (8, .ref (ad (45, 0, 0, 0))), (9, .int (nI x))]) hx hb dL_isPassed_184 hl (k := 3) rfl (by decide) (by decide) rfl (fun ls hl => ?_)
                refine lv_goto (tgt := 102) hx hb dL_isPassed_187 (by decide) ?_
                exact ih102 (j + 1) (by omega) (by omega) H locs ls (h.eq (congrArg (lay tc ad gm dz) rfl)) (lv_sub hl [0, 1, 2, 4, 5, 6, 7, 8, 9, 10, 11, 12, 13, 14, 15, 16] rfl)
              · skip
                have hq : (decide (1 < mstR Z d k m) && agC Z d k (j + 1)) = true := by rw [ag_s hZ.tr hN.2.1 c_160, decide_eq_false c_174, Bool.not_false, Bool.and_true]; exact c_155
                refine lv_iconst (v := nI 1) hx hb dL_isPassed_177 (by decide) ?_
                refine lv_goto (tgt := 182) hx hb dL_isPassed_178 (by decide) ?_
                rw [lb_t hq]
                refine lv_istore (lv' := [(15, .int (bI (decide (1 < mstR Z d k m) && agC Z d k (j + 1)))), (14, .int (nI (agN Z d k (j + 1)))), (17, .int (snc Z d k j)), (16, .int (nI j)), (12, .int (nI k)), (11, .int (nI d)), (10, .int (nI gn)), (0, .ref (ad (0, 0, 0, 0))), (1, .ref (ad (35, 0, 0, 0))), (2, .ref (ad (37, 0, 0, 0))), (3, .ref (ad (39, 0, 0, 0))), (4, .ref (ad (43, 0, 0, 0))), (5, .ref (ad (41, 0, 0, 0))), (6, .ref (ad (42, 0, 0, 0))), (7, .ref (ad (40, 0, 0, 0))), (8, .ref (ad (45, 0, 0, 0))), (9, .int (nI x))]) hx hb dL_isPassed_182 hl (by decide) rfl (fun ls hl => ?_)
                refine n_iinc (j := j) (n := 1) (lv' := [(16, .int (nI (j + 1))), (15, .int (bI (decide (1 < mstR Z d k m) && agC Z d k (j + 1)))), (14, .int (nI (agN Z d k (j + 1)))), (17, .int (snc Z d k j)), (12, .int (nI k)), (11, .int (nI d)), (10, .int (nI gn)), (0, .ref (ad (0, 0, 0, 0))), (1, .ref (ad (35, 0, 0, 0))), (2, .ref (ad (37, 0, 0, 0))), (3, .ref (ad (39, 0, 0, 0))), (4, .ref (ad (43, 0, 0, 0))), (5, .ref (ad (41, 0, 0, 0))), (6, .ref (ad (42, 0, 0, 0))), (7, .ref (ad (40, 0, 0, 0))), (8, .ref (ad (45, 0, 0, 0))), (9, .int (nI x))]) hx hb dL_isPassed_184 hl (k := 3) rfl (by decide) (by decide) rfl (fun ls hl => ?_)
                refine lv_goto (tgt := 102) hx hb dL_isPassed_187 (by decide) ?_
                exact ih102 (j + 1) (by omega) (by omega) H locs ls (h.eq (congrArg (lay tc ad gm dz) rfl)) (lv_sub hl [0, 1, 2, 4, 5, 6, 7, 8, 9, 10, 11, 12, 13, 14, 15, 16] rfl)
        · skip
          have hcn : agN Z d k j + 1 = agN Z d k (j + 1) := (cntN_y (p := fun k9 => mo Z k k9 && kmk Z d k9) (snc_b.trans (decide_eq_true (not_le_lt c_142)))).symm
          refine lv_iconst (v := nI 1) hx hb dL_isPassed_145 (by decide) ?_
          refine lv_goto (tgt := 150) hx hb dL_isPassed_146 (by decide) ?_
          refine n_iadd hx hb dL_isPassed_150 ?_
          rw [hcn]
          refine lv_istore (lv' := [(14, .int (nI (agN Z d k (j + 1)))), (17, .int (snc Z d k j)), (16, .int (nI j)), (15, .int (bI (decide (1 < mstR Z d k m) && agC Z d k j))), (12, .int (nI k)), (11, .int (nI d)), (10, .int (nI gn)), (0, .ref (ad (0, 0, 0, 0))), (1, .ref (ad (35, 0, 0, 0))), (2, .ref (ad (37, 0, 0, 0))), (3, .ref (ad (39, 0, 0, 0))), (4, .ref (ad (43, 0, 0, 0))), (5, .ref (ad (41, 0, 0, 0))), (6, .ref (ad (42, 0, 0, 0))), (7, .ref (ad (40, 0, 0, 0))), (8, .ref (ad (45, 0, 0, 0))), (9, .int (nI x))]) hx hb dL_isPassed_151 hl (by decide) rfl (fun ls hl => ?_)
          refine lv_iload hx hb dL_isPassed_153 (lv_at hl 3 rfl) ?_
          refine b_if_eq (tgt := 181) hx hb dL_isPassed_155 (by decide) (fun c_155 => ?_) (fun c_155 => ?_)
          · skip
            have hq : (decide (1 < mstR Z d k m) && agC Z d k (j + 1)) = false := ag_f c_155
            refine lv_iconst (v := nI 0) hx hb dL_isPassed_181 (by decide) ?_
            rw [lb_f hq]
            refine lv_istore (lv' := [(15, .int (bI (decide (1 < mstR Z d k m) && agC Z d k (j + 1)))), (14, .int (nI (agN Z d k (j + 1)))), (17, .int (snc Z d k j)), (16, .int (nI j)), (12, .int (nI k)), (11, .int (nI d)), (10, .int (nI gn)), (0, .ref (ad (0, 0, 0, 0))), (1, .ref (ad (35, 0, 0, 0))), (2, .ref (ad (37, 0, 0, 0))), (3, .ref (ad (39, 0, 0, 0))), (4, .ref (ad (43, 0, 0, 0))), (5, .ref (ad (41, 0, 0, 0))), (6, .ref (ad (42, 0, 0, 0))), (7, .ref (ad (40, 0, 0, 0))), (8, .ref (ad (45, 0, 0, 0))), (9, .int (nI x))]) hx hb dL_isPassed_182 hl (by decide) rfl (fun ls hl => ?_)
            refine n_iinc (j := j) (n := 1) (lv' := [(16, .int (nI (j + 1))), (15, .int (bI (decide (1 < mstR Z d k m) && agC Z d k (j + 1)))), (14, .int (nI (agN Z d k (j + 1)))), (17, .int (snc Z d k j)), (12, .int (nI k)), (11, .int (nI d)), (10, .int (nI gn)), (0, .ref (ad (0, 0, 0, 0))), (1, .ref (ad (35, 0, 0, 0))), (2, .ref (ad (37, 0, 0, 0))), (3, .ref (ad (39, 0, 0, 0))), (4, .ref (ad (43, 0, 0, 0))), (5, .ref (ad (41, 0, 0, 0))), (6, .ref (ad (42, 0, 0, 0))), (7, .ref (ad (40, 0, 0, 0))), (8, .ref (ad (45, 0, 0, 0))), (9, .int (nI x))]) hx hb dL_isPassed_184 hl (k := 3) rfl (by decide) (by decide) rfl (fun ls hl => ?_)
            refine lv_goto (tgt := 102) hx hb dL_isPassed_187 (by decide) ?_
            exact ih102 (j + 1) (by omega) (by omega) H locs ls (h.eq (congrArg (lay tc ad gm dz) rfl)) (lv_sub hl [0, 1, 2, 4, 5, 6, 7, 8, 9, 10, 11, 12, 13, 14, 15, 16] rfl)
          · skip
            refine lv_iload hx hb dL_isPassed_158 (lv_at hl 1 rfl) ?_
            refine lv_if_eq (tgt := 177) hx hb dL_isPassed_160 (by decide) (fun c_160 => ?_) (fun c_160 => ?_)
            · skip
              have hq : (decide (1 < mstR Z d k m) && agC Z d k (j + 1)) = true := by rw [snc_eq0 c_160]; exact c_155
              refine lv_iconst (v := nI 1) hx hb dL_isPassed_177 (by decide) ?_
              refine lv_goto (tgt := 182) hx hb dL_isPassed_178 (by decide) ?_
              rw [lb_t hq]
              refine lv_istore (lv' := [(15, .int (bI (decide (1 < mstR Z d k m) && agC Z d k (j + 1)))), (14, .int (nI (agN Z d k (j + 1)))), (17, .int (snc Z d k j)), (16, .int (nI j)), (12, .int (nI k)), (11, .int (nI d)), (10, .int (nI gn)), (0, .ref (ad (0, 0, 0, 0))), (1, .ref (ad (35, 0, 0, 0))), (2, .ref (ad (37, 0, 0, 0))), (3, .ref (ad (39, 0, 0, 0))), (4, .ref (ad (43, 0, 0, 0))), (5, .ref (ad (41, 0, 0, 0))), (6, .ref (ad (42, 0, 0, 0))), (7, .ref (ad (40, 0, 0, 0))), (8, .ref (ad (45, 0, 0, 0))), (9, .int (nI x))]) hx hb dL_isPassed_182 hl (by decide) rfl (fun ls hl => ?_)
              refine n_iinc (j := j) (n := 1) (lv' := [(16, .int (nI (j + 1))), (15, .int (bI (decide (1 < mstR Z d k m) && agC Z d k (j + 1)))), (14, .int (nI (agN Z d k (j + 1)))), (17, .int (snc Z d k j)), (12, .int (nI k)), (11, .int (nI d)), (10, .int (nI gn)), (0, .ref (ad (0, 0, 0, 0))), (1, .ref (ad (35, 0, 0, 0))), (2, .ref (ad (37, 0, 0, 0))), (3, .ref (ad (39, 0, 0, 0))), (4, .ref (ad (43, 0, 0, 0))), (5, .ref (ad (41, 0, 0, 0))), (6, .ref (ad (42, 0, 0, 0))), (7, .ref (ad (40, 0, 0, 0))), (8, .ref (ad (45, 0, 0, 0))), (9, .int (nI x))]) hx hb dL_isPassed_184 hl (k := 3) rfl (by decide) (by decide) rfl (fun ls hl => ?_)
              refine lv_goto (tgt := 102) hx hb dL_isPassed_187 (by decide) ?_
              exact ih102 (j + 1) (by omega) (by omega) H locs ls (h.eq (congrArg (lay tc ad gm dz) rfl)) (lv_sub hl [0, 1, 2, 4, 5, 6, 7, 8, 9, 10, 11, 12, 13, 14, 15, 16] rfl)
            · skip
              refine lv_aload hx hb dL_isPassed_163 (lv_at hl 15 rfl) ?_
              refine lv_iconst (v := nI 1) hx hb dL_isPassed_165 (by decide) ?_
              refine y_ald X h (fun _ => rfl) (by decide) (hL (45, 0, 0, 0) ⟨by decide, rfl, rfl, rfl⟩) (by omega) (v := nI t) (gc_1.trans hN.2.1) dL_isPassed_166 ?_
              refine lv_iconst (v := nI 1) hx hb dL_isPassed_167 (by decide) ?_
              refine n_iadd hx hb dL_isPassed_168 ?_
              refine lv_iload hx hb dL_isPassed_169 (lv_at hl 1 rfl) ?_
              refine lv_isub hx hb dL_isPassed_171 ?_
              refine lv_bipush (v := nI 12) hx hb dL_isPassed_172 (by decide) ?_
              refine lv_icmp_le (tgt := 181) hx hb dL_isPassed_174 (by decide) (fun c_174 => ?_) (fun c_174 => ?_)
              · skip
                have hq : (decide (1 < mstR Z d k m) && agC Z d k (j + 1)) = false := by rw [ag_s hZ.tr hN.2.1 c_160, decide_eq_true c_174, Bool.not_true, Bool.and_false, Bool.and_false]
                refine lv_iconst (v := nI 0) hx hb dL_isPassed_181 (by decide) ?_
                rw [lb_f hq]
                refine lv_istore (lv' := [(15, .int (bI (decide (1 < mstR Z d k m) && agC Z d k (j + 1)))), (14, .int (nI (agN Z d k (j + 1)))), (17, .int (snc Z d k j)), (16, .int (nI j)), (12, .int (nI k)), (11, .int (nI d)), (10, .int (nI gn)), (0, .ref (ad (0, 0, 0, 0))), (1, .ref (ad (35, 0, 0, 0))), (2, .ref (ad (37, 0, 0, 0))), (3, .ref (ad (39, 0, 0, 0))), (4, .ref (ad (43, 0, 0, 0))), (5, .ref (ad (41, 0, 0, 0))), (6, .ref (ad (42, 0, 0, 0))), (7, .ref (ad (40, 0, 0, 0))), (8, .ref (ad (45, 0, 0, 0))), (9, .int (nI x))]) hx hb dL_isPassed_182 hl (by decide) rfl (fun ls hl => ?_)
                refine n_iinc (j := j) (n := 1) (lv' := [(16, .int (nI (j + 1))), (15, .int (bI (decide (1 < mstR Z d k m) && agC Z d k (j + 1)))), (14, .int (nI (agN Z d k (j + 1)))), (17, .int (snc Z d k j)), (12, .int (nI k)), (11, .int (nI d)), (10, .int (nI gn)), (0, .ref (ad (0, 0, 0, 0))), (1, .ref (ad (35, 0, 0, 0))), (2, .ref (ad (37, 0, 0, 0))), (3, .ref (ad (39, 0, 0, 0))), (4, .ref (ad (43, 0, 0, 0))), (5, .ref (ad (41, 0, 0, 0))), (6, .ref (ad (42, 0, 0, 0))), (7, .ref (ad (40, 0, 0, 0))), (8, .ref (ad (45, 0, 0, 0))), (9, .int (nI x))]) hx hb dL_isPassed_184 hl (k := 3) rfl (by decide) (by decide) rfl (fun ls hl => ?_)
                refine lv_goto (tgt := 102) hx hb dL_isPassed_187 (by decide) ?_
                exact ih102 (j + 1) (by omega) (by omega) H locs ls (h.eq (congrArg (lay tc ad gm dz) rfl)) (lv_sub hl [0, 1, 2, 4, 5, 6, 7, 8, 9, 10, 11, 12, 13, 14, 15, 16] rfl)
              · skip
                have hq : (decide (1 < mstR Z d k m) && agC Z d k (j + 1)) = true := by rw [ag_s hZ.tr hN.2.1 c_160, decide_eq_false c_174, Bool.not_false, Bool.and_true]; exact c_155
                refine lv_iconst (v := nI 1) hx hb dL_isPassed_177 (by decide) ?_
                refine lv_goto (tgt := 182) hx hb dL_isPassed_178 (by decide) ?_
                rw [lb_t hq]
                refine lv_istore (lv' := [(15, .int (bI (decide (1 < mstR Z d k m) && agC Z d k (j + 1)))), (14, .int (nI (agN Z d k (j + 1)))), (17, .int (snc Z d k j)), (16, .int (nI j)), (12, .int (nI k)), (11, .int (nI d)), (10, .int (nI gn)), (0, .ref (ad (0, 0, 0, 0))), (1, .ref (ad (35, 0, 0, 0))), (2, .ref (ad (37, 0, 0, 0))), (3, .ref (ad (39, 0, 0, 0))), (4, .ref (ad (43, 0, 0, 0))), (5, .ref (ad (41, 0, 0, 0))), (6, .ref (ad (42, 0, 0, 0))), (7, .ref (ad (40, 0, 0, 0))), (8, .ref (ad (45, 0, 0, 0))), (9, .int (nI x))]) hx hb dL_isPassed_182 hl (by decide) rfl (fun ls hl => ?_)
                refine n_iinc (j := j) (n := 1) (lv' := [(16, .int (nI (j + 1))), (15, .int (bI (decide (1 < mstR Z d k m) && agC Z d k (j + 1)))), (14, .int (nI (agN Z d k (j + 1)))), (17, .int (snc Z d k j)), (12, .int (nI k)), (11, .int (nI d)), (10, .int (nI gn)), (0, .ref (ad (0, 0, 0, 0))), (1, .ref (ad (35, 0, 0, 0))), (2, .ref (ad (37, 0, 0, 0))), (3, .ref (ad (39, 0, 0, 0))), (4, .ref (ad (43, 0, 0, 0))), (5, .ref (ad (41, 0, 0, 0))), (6, .ref (ad (42, 0, 0, 0))), (7, .ref (ad (40, 0, 0, 0))), (8, .ref (ad (45, 0, 0, 0))), (9, .int (nI x))]) hx hb dL_isPassed_184 hl (k := 3) rfl (by decide) (by decide) rfl (fun ls hl => ?_)
                refine lv_goto (tgt := 102) hx hb dL_isPassed_187 (by decide) ?_
                exact ih102 (j + 1) (by omega) (by omega) H locs ls (h.eq (congrArg (lay tc ad gm dz) rfl)) (lv_sub hl [0, 1, 2, 4, 5, 6, 7, 8, 9, 10, 11, 12, 13, 14, 15, 16] rfl)
      · skip
        have hsn : Z (42, 0, 0, 0) (6 * j + d) = snc Z d k j := (snc_y c_118).symm
        refine lv_aload hx hb dL_isPassed_121 (lv_at hl 12 rfl) ?_
        refine lv_bipush (v := nI 6) hx hb dL_isPassed_123 (by decide) ?_
        refine lv_iload hx hb dL_isPassed_125 (lv_at hl 0 rfl) ?_
        refine n_imul hx hb dL_isPassed_127 ?_
        refine lv_iload hx hb dL_isPassed_128 (lv_at hl 4 rfl) ?_
        refine n_iadd hx hb dL_isPassed_130 ?_
        refine y_ald X h (fun _ => rfl) (by decide) (hL (42, 0, 0, 0) ⟨by decide, rfl, rfl, rfl⟩) (by omega) (v := Z (42, 0, 0, 0) ((6 * j) + d)) (congrFun (LL_see (by decide)) _) dL_isPassed_131 ?_
        refine lv_goto (tgt := 136) hx hb dL_isPassed_132 (by decide) ?_
        rw [hsn]
        refine lv_istore (lv' := [(17, .int (snc Z d k j)), (16, .int (nI j)), (15, .int (bI (decide (1 < mstR Z d k m) && agC Z d k j))), (14, .int (nI (agN Z d k j))), (12, .int (nI k)), (11, .int (nI d)), (10, .int (nI gn)), (0, .ref (ad (0, 0, 0, 0))), (1, .ref (ad (35, 0, 0, 0))), (2, .ref (ad (37, 0, 0, 0))), (3, .ref (ad (39, 0, 0, 0))), (4, .ref (ad (43, 0, 0, 0))), (5, .ref (ad (41, 0, 0, 0))), (6, .ref (ad (42, 0, 0, 0))), (7, .ref (ad (40, 0, 0, 0))), (8, .ref (ad (45, 0, 0, 0))), (9, .int (nI x))]) hx hb dL_isPassed_136 hl (by decide) rfl (fun ls hl => ?_)
        refine lv_iload hx hb dL_isPassed_138 (lv_at hl 3 rfl) ?_
        refine lv_iload hx hb dL_isPassed_140 (lv_at hl 0 rfl) ?_
        refine lv_if_le (tgt := 149) hx hb dL_isPassed_142 (by decide) (fun c_142 => ?_) (fun c_142 => ?_)
        · skip
          have hcn : agN Z d k j + 0 = agN Z d k (j + 1) := (cntN_n (p := fun k9 => mo Z k k9 && kmk Z d k9) (snc_b.trans (decide_eq_false (le_not_lt c_142)))).symm
          refine lv_iconst (v := nI 0) hx hb dL_isPassed_149 (by decide) ?_
          refine n_iadd hx hb dL_isPassed_150 ?_
          rw [hcn]
          refine lv_istore (lv' := [(14, .int (nI (agN Z d k (j + 1)))), (17, .int (snc Z d k j)), (16, .int (nI j)), (15, .int (bI (decide (1 < mstR Z d k m) && agC Z d k j))), (12, .int (nI k)), (11, .int (nI d)), (10, .int (nI gn)), (0, .ref (ad (0, 0, 0, 0))), (1, .ref (ad (35, 0, 0, 0))), (2, .ref (ad (37, 0, 0, 0))), (3, .ref (ad (39, 0, 0, 0))), (4, .ref (ad (43, 0, 0, 0))), (5, .ref (ad (41, 0, 0, 0))), (6, .ref (ad (42, 0, 0, 0))), (7, .ref (ad (40, 0, 0, 0))), (8, .ref (ad (45, 0, 0, 0))), (9, .int (nI x))]) hx hb dL_isPassed_151 hl (by decide) rfl (fun ls hl => ?_)
          refine lv_iload hx hb dL_isPassed_153 (lv_at hl 3 rfl) ?_
          refine b_if_eq (tgt := 181) hx hb dL_isPassed_155 (by decide) (fun c_155 => ?_) (fun c_155 => ?_)
          · skip
            have hq : (decide (1 < mstR Z d k m) && agC Z d k (j + 1)) = false := ag_f c_155
            refine lv_iconst (v := nI 0) hx hb dL_isPassed_181 (by decide) ?_
            rw [lb_f hq]
            refine lv_istore (lv' := [(15, .int (bI (decide (1 < mstR Z d k m) && agC Z d k (j + 1)))), (14, .int (nI (agN Z d k (j + 1)))), (17, .int (snc Z d k j)), (16, .int (nI j)), (12, .int (nI k)), (11, .int (nI d)), (10, .int (nI gn)), (0, .ref (ad (0, 0, 0, 0))), (1, .ref (ad (35, 0, 0, 0))), (2, .ref (ad (37, 0, 0, 0))), (3, .ref (ad (39, 0, 0, 0))), (4, .ref (ad (43, 0, 0, 0))), (5, .ref (ad (41, 0, 0, 0))), (6, .ref (ad (42, 0, 0, 0))), (7, .ref (ad (40, 0, 0, 0))), (8, .ref (ad (45, 0, 0, 0))), (9, .int (nI x))]) hx hb dL_isPassed_182 hl (by decide) rfl (fun ls hl => ?_)
            refine n_iinc (j := j) (n := 1) (lv' := [(16, .int (nI (j + 1))), (15, .int (bI (decide (1 < mstR Z d k m) && agC Z d k (j + 1)))), (14, .int (nI (agN Z d k (j + 1)))), (17, .int (snc Z d k j)), (12, .int (nI k)), (11, .int (nI d)), (10, .int (nI gn)), (0, .ref (ad (0, 0, 0, 0))), (1, .ref (ad (35, 0, 0, 0))), (2, .ref (ad (37, 0, 0, 0))), (3, .ref (ad (39, 0, 0, 0))), (4, .ref (ad (43, 0, 0, 0))), (5, .ref (ad (41, 0, 0, 0))), (6, .ref (ad (42, 0, 0, 0))), (7, .ref (ad (40, 0, 0, 0))), (8, .ref (ad (45, 0, 0, 0))), (9, .int (nI x))]) hx hb dL_isPassed_184 hl (k := 3) rfl (by decide) (by decide) rfl (fun ls hl => ?_)
            refine lv_goto (tgt := 102) hx hb dL_isPassed_187 (by decide) ?_
            exact ih102 (j + 1) (by omega) (by omega) H locs ls (h.eq (congrArg (lay tc ad gm dz) rfl)) (lv_sub hl [0, 1, 2, 4, 5, 6, 7, 8, 9, 10, 11, 12, 13, 14, 15, 16] rfl)
          · skip
            refine lv_iload hx hb dL_isPassed_158 (lv_at hl 1 rfl) ?_
            refine lv_if_eq (tgt := 177) hx hb dL_isPassed_160 (by decide) (fun c_160 => ?_) (fun c_160 => ?_)
            · skip
              have hq : (decide (1 < mstR Z d k m) && agC Z d k (j + 1)) = true := by rw [snc_eq0 c_160]; exact c_155
              refine lv_iconst (v := nI 1) hx hb dL_isPassed_177 (by decide) ?_
              refine lv_goto (tgt := 182) hx hb dL_isPassed_178 (by decide) ?_
              rw [lb_t hq]
              refine lv_istore (lv' := [(15, .int (bI (decide (1 < mstR Z d k m) && agC Z d k (j + 1)))), (14, .int (nI (agN Z d k (j + 1)))), (17, .int (snc Z d k j)), (16, .int (nI j)), (12, .int (nI k)), (11, .int (nI d)), (10, .int (nI gn)), (0, .ref (ad (0, 0, 0, 0))), (1, .ref (ad (35, 0, 0, 0))), (2, .ref (ad (37, 0, 0, 0))), (3, .ref (ad (39, 0, 0, 0))), (4, .ref (ad (43, 0, 0, 0))), (5, .ref (ad (41, 0, 0, 0))), (6, .ref (ad (42, 0, 0, 0))), (7, .ref (ad (40, 0, 0, 0))), (8, .ref (ad (45, 0, 0, 0))), (9, .int (nI x))]) hx hb dL_isPassed_182 hl (by decide) rfl (fun ls hl => ?_)
              refine n_iinc (j := j) (n := 1) (lv' := [(16, .int (nI (j + 1))), (15, .int (bI (decide (1 < mstR Z d k m) && agC Z d k (j + 1)))), (14, .int (nI (agN Z d k (j + 1)))), (17, .int (snc Z d k j)), (12, .int (nI k)), (11, .int (nI d)), (10, .int (nI gn)), (0, .ref (ad (0, 0, 0, 0))), (1, .ref (ad (35, 0, 0, 0))), (2, .ref (ad (37, 0, 0, 0))), (3, .ref (ad (39, 0, 0, 0))), (4, .ref (ad (43, 0, 0, 0))), (5, .ref (ad (41, 0, 0, 0))), (6, .ref (ad (42, 0, 0, 0))), (7, .ref (ad (40, 0, 0, 0))), (8, .ref (ad (45, 0, 0, 0))), (9, .int (nI x))]) hx hb dL_isPassed_184 hl (k := 3) rfl (by decide) (by decide) rfl (fun ls hl => ?_)
              refine lv_goto (tgt := 102) hx hb dL_isPassed_187 (by decide) ?_
              exact ih102 (j + 1) (by omega) (by omega) H locs ls (h.eq (congrArg (lay tc ad gm dz) rfl)) (lv_sub hl [0, 1, 2, 4, 5, 6, 7, 8, 9, 10, 11, 12, 13, 14, 15, 16] rfl)
            · skip
              refine lv_aload hx hb dL_isPassed_163 (lv_at hl 15 rfl) ?_
              refine lv_iconst (v := nI 1) hx hb dL_isPassed_165 (by decide) ?_
              refine y_ald X h (fun _ => rfl) (by decide) (hL (45, 0, 0, 0) ⟨by decide, rfl, rfl, rfl⟩) (by omega) (v := nI t) (gc_1.trans hN.2.1) dL_isPassed_166 ?_
              refine lv_iconst (v := nI 1) hx hb dL_isPassed_167 (by decide) ?_
              refine n_iadd hx hb dL_isPassed_168 ?_
              refine lv_iload hx hb dL_isPassed_169 (lv_at hl 1 rfl) ?_
              refine lv_isub hx hb dL_isPassed_171 ?_
              refine lv_bipush (v := nI 12) hx hb dL_isPassed_172 (by decide) ?_
              refine lv_icmp_le (tgt := 181) hx hb dL_isPassed_174 (by decide) (fun c_174 => ?_) (fun c_174 => ?_)
              · skip
                have hq : (decide (1 < mstR Z d k m) && agC Z d k (j + 1)) = false := by rw [ag_s hZ.tr hN.2.1 c_160, decide_eq_true c_174, Bool.not_true, Bool.and_false, Bool.and_false]
                refine lv_iconst (v := nI 0) hx hb dL_isPassed_181 (by decide) ?_
                rw [lb_f hq]
                refine lv_istore (lv' := [(15, .int (bI (decide (1 < mstR Z d k m) && agC Z d k (j + 1)))), (14, .int (nI (agN Z d k (j + 1)))), (17, .int (snc Z d k j)), (16, .int (nI j)), (12, .int (nI k)), (11, .int (nI d)), (10, .int (nI gn)), (0, .ref (ad (0, 0, 0, 0))), (1, .ref (ad (35, 0, 0, 0))), (2, .ref (ad (37, 0, 0, 0))), (3, .ref (ad (39, 0, 0, 0))), (4, .ref (ad (43, 0, 0, 0))), (5, .ref (ad (41, 0, 0, 0))), (6, .ref (ad (42, 0, 0, 0))), (7, .ref (ad (40, 0, 0, 0))), (8, .ref (ad (45, 0, 0, 0))), (9, .int (nI x))]) hx hb dL_isPassed_182 hl (by decide) rfl (fun ls hl => ?_)
                refine n_iinc (j := j) (n := 1) (lv' := [(16, .int (nI (j + 1))), (15, .int (bI (decide (1 < mstR Z d k m) && agC Z d k (j + 1)))), (14, .int (nI (agN Z d k (j + 1)))), (17, .int (snc Z d k j)), (12, .int (nI k)), (11, .int (nI d)), (10, .int (nI gn)), (0, .ref (ad (0, 0, 0, 0))), (1, .ref (ad (35, 0, 0, 0))), (2, .ref (ad (37, 0, 0, 0))), (3, .ref (ad (39, 0, 0, 0))), (4, .ref (ad (43, 0, 0, 0))), (5, .ref (ad (41, 0, 0, 0))), (6, .ref (ad (42, 0, 0, 0))), (7, .ref (ad (40, 0, 0, 0))), (8, .ref (ad (45, 0, 0, 0))), (9, .int (nI x))]) hx hb dL_isPassed_184 hl (k := 3) rfl (by decide) (by decide) rfl (fun ls hl => ?_)
                refine lv_goto (tgt := 102) hx hb dL_isPassed_187 (by decide) ?_
                exact ih102 (j + 1) (by omega) (by omega) H locs ls (h.eq (congrArg (lay tc ad gm dz) rfl)) (lv_sub hl [0, 1, 2, 4, 5, 6, 7, 8, 9, 10, 11, 12, 13, 14, 15, 16] rfl)
              · skip
                have hq : (decide (1 < mstR Z d k m) && agC Z d k (j + 1)) = true := by rw [ag_s hZ.tr hN.2.1 c_160, decide_eq_false c_174, Bool.not_false, Bool.and_true]; exact c_155
                refine lv_iconst (v := nI 1) hx hb dL_isPassed_177 (by decide) ?_
                refine lv_goto (tgt := 182) hx hb dL_isPassed_178 (by decide) ?_
                rw [lb_t hq]
                refine lv_istore (lv' := [(15, .int (bI (decide (1 < mstR Z d k m) && agC Z d k (j + 1)))), (14, .int (nI (agN Z d k (j + 1)))), (17, .int (snc Z d k j)), (16, .int (nI j)), (12, .int (nI k)), (11, .int (nI d)), (10, .int (nI gn)), (0, .ref (ad (0, 0, 0, 0))), (1, .ref (ad (35, 0, 0, 0))), (2, .ref (ad (37, 0, 0, 0))), (3, .ref (ad (39, 0, 0, 0))), (4, .ref (ad (43, 0, 0, 0))), (5, .ref (ad (41, 0, 0, 0))), (6, .ref (ad (42, 0, 0, 0))), (7, .ref (ad (40, 0, 0, 0))), (8, .ref (ad (45, 0, 0, 0))), (9, .int (nI x))]) hx hb dL_isPassed_182 hl (by decide) rfl (fun ls hl => ?_)
                refine n_iinc (j := j) (n := 1) (lv' := [(16, .int (nI (j + 1))), (15, .int (bI (decide (1 < mstR Z d k m) && agC Z d k (j + 1)))), (14, .int (nI (agN Z d k (j + 1)))), (17, .int (snc Z d k j)), (12, .int (nI k)), (11, .int (nI d)), (10, .int (nI gn)), (0, .ref (ad (0, 0, 0, 0))), (1, .ref (ad (35, 0, 0, 0))), (2, .ref (ad (37, 0, 0, 0))), (3, .ref (ad (39, 0, 0, 0))), (4, .ref (ad (43, 0, 0, 0))), (5, .ref (ad (41, 0, 0, 0))), (6, .ref (ad (42, 0, 0, 0))), (7, .ref (ad (40, 0, 0, 0))), (8, .ref (ad (45, 0, 0, 0))), (9, .int (nI x))]) hx hb dL_isPassed_184 hl (k := 3) rfl (by decide) (by decide) rfl (fun ls hl => ?_)
                refine lv_goto (tgt := 102) hx hb dL_isPassed_187 (by decide) ?_
                exact ih102 (j + 1) (by omega) (by omega) H locs ls (h.eq (congrArg (lay tc ad gm dz) rfl)) (lv_sub hl [0, 1, 2, 4, 5, 6, 7, 8, 9, 10, 11, 12, 13, 14, 15, 16] rfl)
        · skip
          have hcn : agN Z d k j + 1 = agN Z d k (j + 1) := (cntN_y (p := fun k9 => mo Z k k9 && kmk Z d k9) (snc_b.trans (decide_eq_true (not_le_lt c_142)))).symm
          refine lv_iconst (v := nI 1) hx hb dL_isPassed_145 (by decide) ?_
          refine lv_goto (tgt := 150) hx hb dL_isPassed_146 (by decide) ?_
          refine n_iadd hx hb dL_isPassed_150 ?_
          rw [hcn]
          refine lv_istore (lv' := [(14, .int (nI (agN Z d k (j + 1)))), (17, .int (snc Z d k j)), (16, .int (nI j)), (15, .int (bI (decide (1 < mstR Z d k m) && agC Z d k j))), (12, .int (nI k)), (11, .int (nI d)), (10, .int (nI gn)), (0, .ref (ad (0, 0, 0, 0))), (1, .ref (ad (35, 0, 0, 0))), (2, .ref (ad (37, 0, 0, 0))), (3, .ref (ad (39, 0, 0, 0))), (4, .ref (ad (43, 0, 0, 0))), (5, .ref (ad (41, 0, 0, 0))), (6, .ref (ad (42, 0, 0, 0))), (7, .ref (ad (40, 0, 0, 0))), (8, .ref (ad (45, 0, 0, 0))), (9, .int (nI x))]) hx hb dL_isPassed_151 hl (by decide) rfl (fun ls hl => ?_)
          refine lv_iload hx hb dL_isPassed_153 (lv_at hl 3 rfl) ?_
          refine b_if_eq (tgt := 181) hx hb dL_isPassed_155 (by decide) (fun c_155 => ?_) (fun c_155 => ?_)
          · skip
            have hq : (decide (1 < mstR Z d k m) && agC Z d k (j + 1)) = false := ag_f c_155
            refine lv_iconst (v := nI 0) hx hb dL_isPassed_181 (by decide) ?_
            rw [lb_f hq]
            refine lv_istore (lv' := [(15, .int (bI (decide (1 < mstR Z d k m) && agC Z d k (j + 1)))), (14, .int (nI (agN Z d k (j + 1)))), (17, .int (snc Z d k j)), (16, .int (nI j)), (12, .int (nI k)), (11, .int (nI d)), (10, .int (nI gn)), (0, .ref (ad (0, 0, 0, 0))), (1, .ref (ad (35, 0, 0, 0))), (2, .ref (ad (37, 0, 0, 0))), (3, .ref (ad (39, 0, 0, 0))), (4, .ref (ad (43, 0, 0, 0))), (5, .ref (ad (41, 0, 0, 0))), (6, .ref (ad (42, 0, 0, 0))), (7, .ref (ad (40, 0, 0, 0))), (8, .ref (ad (45, 0, 0, 0))), (9, .int (nI x))]) hx hb dL_isPassed_182 hl (by decide) rfl (fun ls hl => ?_)
            refine n_iinc (j := j) (n := 1) (lv' := [(16, .int (nI (j + 1))), (15, .int (bI (decide (1 < mstR Z d k m) && agC Z d k (j + 1)))), (14, .int (nI (agN Z d k (j + 1)))), (17, .int (snc Z d k j)), (12, .int (nI k)), (11, .int (nI d)), (10, .int (nI gn)), (0, .ref (ad (0, 0, 0, 0))), (1, .ref (ad (35, 0, 0, 0))), (2, .ref (ad (37, 0, 0, 0))), (3, .ref (ad (39, 0, 0, 0))), (4, .ref (ad (43, 0, 0, 0))), (5, .ref (ad (41, 0, 0, 0))), (6, .ref (ad (42, 0, 0, 0))), (7, .ref (ad (40, 0, 0, 0))), (8, .ref (ad (45, 0, 0, 0))), (9, .int (nI x))]) hx hb dL_isPassed_184 hl (k := 3) rfl (by decide) (by decide) rfl (fun ls hl => ?_)
            refine lv_goto (tgt := 102) hx hb dL_isPassed_187 (by decide) ?_
            exact ih102 (j + 1) (by omega) (by omega) H locs ls (h.eq (congrArg (lay tc ad gm dz) rfl)) (lv_sub hl [0, 1, 2, 4, 5, 6, 7, 8, 9, 10, 11, 12, 13, 14, 15, 16] rfl)
          · skip
            refine lv_iload hx hb dL_isPassed_158 (lv_at hl 1 rfl) ?_
            refine lv_if_eq (tgt := 177) hx hb dL_isPassed_160 (by decide) (fun c_160 => ?_) (fun c_160 => ?_)
            · skip
              have hq : (decide (1 < mstR Z d k m) && agC Z d k (j + 1)) = true := by rw [snc_eq0 c_160]; exact c_155
              refine lv_iconst (v := nI 1) hx hb dL_isPassed_177 (by decide) ?_
              refine lv_goto (tgt := 182) hx hb dL_isPassed_178 (by decide) ?_
              rw [lb_t hq]
              refine lv_istore (lv' := [(15, .int (bI (decide (1 < mstR Z d k m) && agC Z d k (j + 1)))), (14, .int (nI (agN Z d k (j + 1)))), (17, .int (snc Z d k j)), (16, .int (nI j)), (12, .int (nI k)), (11, .int (nI d)), (10, .int (nI gn)), (0, .ref (ad (0, 0, 0, 0))), (1, .ref (ad (35, 0, 0, 0))), (2, .ref (ad (37, 0, 0, 0))), (3, .ref (ad (39, 0, 0, 0))), (4, .ref (ad (43, 0, 0, 0))), (5, .ref (ad (41, 0, 0, 0))), (6, .ref (ad (42, 0, 0, 0))), (7, .ref (ad (40, 0, 0, 0))), (8, .ref (ad (45, 0, 0, 0))), (9, .int (nI x))]) hx hb dL_isPassed_182 hl (by decide) rfl (fun ls hl => ?_)
              refine n_iinc (j := j) (n := 1) (lv' := [(16, .int (nI (j + 1))), (15, .int (bI (decide (1 < mstR Z d k m) && agC Z d k (j + 1)))), (14, .int (nI (agN Z d k (j + 1)))), (17, .int (snc Z d k j)), (12, .int (nI k)), (11, .int (nI d)), (10, .int (nI gn)), (0, .ref (ad (0, 0, 0, 0))), (1, .ref (ad (35, 0, 0, 0))), (2, .ref (ad (37, 0, 0, 0))), (3, .ref (ad (39, 0, 0, 0))), (4, .ref (ad (43, 0, 0, 0))), (5, .ref (ad (41, 0, 0, 0))), (6, .ref (ad (42, 0, 0, 0))), (7, .ref (ad (40, 0, 0, 0))), (8, .ref (ad (45, 0, 0, 0))), (9, .int (nI x))]) hx hb dL_isPassed_184 hl (k := 3) rfl (by decide) (by decide) rfl (fun ls hl => ?_)
              refine lv_goto (tgt := 102) hx hb dL_isPassed_187 (by decide) ?_
              exact ih102 (j + 1) (by omega) (by omega) H locs ls (h.eq (congrArg (lay tc ad gm dz) rfl)) (lv_sub hl [0, 1, 2, 4, 5, 6, 7, 8, 9, 10, 11, 12, 13, 14, 15, 16] rfl)
            · skip
              refine lv_aload hx hb dL_isPassed_163 (lv_at hl 15 rfl) ?_
              refine lv_iconst (v := nI 1) hx hb dL_isPassed_165 (by decide) ?_
              refine y_ald X h (fun _ => rfl) (by decide) (hL (45, 0, 0, 0) ⟨by decide, rfl, rfl, rfl⟩) (by omega) (v := nI t) (gc_1.trans hN.2.1) dL_isPassed_166 ?_
              refine lv_iconst (v := nI 1) hx hb dL_isPassed_167 (by decide) ?_
              refine n_iadd hx hb dL_isPassed_168 ?_
              refine lv_iload hx hb dL_isPassed_169 (lv_at hl 1 rfl) ?_
              refine lv_isub hx hb dL_isPassed_171 ?_
              refine lv_bipush (v := nI 12) hx hb dL_isPassed_172 (by decide) ?_
              refine lv_icmp_le (tgt := 181) hx hb dL_isPassed_174 (by decide) (fun c_174 => ?_) (fun c_174 => ?_)
              · skip
                have hq : (decide (1 < mstR Z d k m) && agC Z d k (j + 1)) = false := by rw [ag_s hZ.tr hN.2.1 c_160, decide_eq_true c_174, Bool.not_true, Bool.and_false, Bool.and_false]
                refine lv_iconst (v := nI 0) hx hb dL_isPassed_181 (by decide) ?_
                rw [lb_f hq]
                refine lv_istore (lv' := [(15, .int (bI (decide (1 < mstR Z d k m) && agC Z d k (j + 1)))), (14, .int (nI (agN Z d k (j + 1)))), (17, .int (snc Z d k j)), (16, .int (nI j)), (12, .int (nI k)), (11, .int (nI d)), (10, .int (nI gn)), (0, .ref (ad (0, 0, 0, 0))), (1, .ref (ad (35, 0, 0, 0))), (2, .ref (ad (37, 0, 0, 0))), (3, .ref (ad (39, 0, 0, 0))), (4, .ref (ad (43, 0, 0, 0))), (5, .ref (ad (41, 0, 0, 0))), (6, .ref (ad (42, 0, 0, 0))), (7, .ref (ad (40, 0, 0, 0))), (8, .ref (ad (45, 0, 0, 0))), (9, .int (nI x))]) hx hb dL_isPassed_182 hl (by decide) rfl (fun ls hl => ?_)
                refine n_iinc (j := j) (n := 1) (lv' := [(16, .int (nI (j + 1))), (15, .int (bI (decide (1 < mstR Z d k m) && agC Z d k (j + 1)))), (14, .int (nI (agN Z d k (j + 1)))), (17, .int (snc Z d k j)), (12, .int (nI k)), (11, .int (nI d)), (10, .int (nI gn)), (0, .ref (ad (0, 0, 0, 0))), (1, .ref (ad (35, 0, 0, 0))), (2, .ref (ad (37, 0, 0, 0))), (3, .ref (ad (39, 0, 0, 0))), (4, .ref (ad (43, 0, 0, 0))), (5, .ref (ad (41, 0, 0, 0))), (6, .ref (ad (42, 0, 0, 0))), (7, .ref (ad (40, 0, 0, 0))), (8, .ref (ad (45, 0, 0, 0))), (9, .int (nI x))]) hx hb dL_isPassed_184 hl (k := 3) rfl (by decide) (by decide) rfl (fun ls hl => ?_)
                refine lv_goto (tgt := 102) hx hb dL_isPassed_187 (by decide) ?_
                exact ih102 (j + 1) (by omega) (by omega) H locs ls (h.eq (congrArg (lay tc ad gm dz) rfl)) (lv_sub hl [0, 1, 2, 4, 5, 6, 7, 8, 9, 10, 11, 12, 13, 14, 15, 16] rfl)
              · skip
                have hq : (decide (1 < mstR Z d k m) && agC Z d k (j + 1)) = true := by rw [ag_s hZ.tr hN.2.1 c_160, decide_eq_false c_174, Bool.not_false, Bool.and_true]; exact c_155
                refine lv_iconst (v := nI 1) hx hb dL_isPassed_177 (by decide) ?_
                refine lv_goto (tgt := 182) hx hb dL_isPassed_178 (by decide) ?_
                rw [lb_t hq]
                refine lv_istore (lv' := [(15, .int (bI (decide (1 < mstR Z d k m) && agC Z d k (j + 1)))), (14, .int (nI (agN Z d k (j + 1)))), (17, .int (snc Z d k j)), (16, .int (nI j)), (12, .int (nI k)), (11, .int (nI d)), (10, .int (nI gn)), (0, .ref (ad (0, 0, 0, 0))), (1, .ref (ad (35, 0, 0, 0))), (2, .ref (ad (37, 0, 0, 0))), (3, .ref (ad (39, 0, 0, 0))), (4, .ref (ad (43, 0, 0, 0))), (5, .ref (ad (41, 0, 0, 0))), (6, .ref (ad (42, 0, 0, 0))), (7, .ref (ad (40, 0, 0, 0))), (8, .ref (ad (45, 0, 0, 0))), (9, .int (nI x))]) hx hb dL_isPassed_182 hl (by decide) rfl (fun ls hl => ?_)
                refine n_iinc (j := j) (n := 1) (lv' := [(16, .int (nI (j + 1))), (15, .int (bI (decide (1 < mstR Z d k m) && agC Z d k (j + 1)))), (14, .int (nI (agN Z d k (j + 1)))), (17, .int (snc Z d k j)), (12, .int (nI k)), (11, .int (nI d)), (10, .int (nI gn)), (0, .ref (ad (0, 0, 0, 0))), (1, .ref (ad (35, 0, 0, 0))), (2, .ref (ad (37, 0, 0, 0))), (3, .ref (ad (39, 0, 0, 0))), (4, .ref (ad (43, 0, 0, 0))), (5, .ref (ad (41, 0, 0, 0))), (6, .ref (ad (42, 0, 0, 0))), (7, .ref (ad (40, 0, 0, 0))), (8, .ref (ad (45, 0, 0, 0))), (9, .int (nI x))]) hx hb dL_isPassed_184 hl (k := 3) rfl (by decide) (by decide) rfl (fun ls hl => ?_)
                refine lv_goto (tgt := 102) hx hb dL_isPassed_187 (by decide) ?_
                exact ih102 (j + 1) (by omega) (by omega) H locs ls (h.eq (congrArg (lay tc ad gm dz) rfl)) (lv_sub hl [0, 1, 2, 4, 5, 6, 7, 8, 9, 10, 11, 12, 13, 14, 15, 16] rfl)

set_option maxHeartbeats 4000000 in
set_option maxRecDepth 100000 in
theorem pa_2y (X : Cx p s mth args meth c cL_isPassed yL_isPassed.cls 18 D tc dz A) (hR1 : 12 ≤ R.frames) (hR2 : 400 ≤ R.locals) (hcR : cells ≤ R.cells) (hsR : slots ≤ R.slots) (hL : LV gm Ks) (Z : Mem) (hW : LW gm Ks) (hZ : OKX Z) (n m t : Nat) (hN : NR Z n m t) (hn2 : n ≤ 2) (hm10 : m ≤ 10) (ht9 : t ≤ 2000) (d k gn x : Nat) (hd : d < 6) (hk2 : k < 2) (ag : Bool) (mk : Nat) (hmk : mk ≤ 10) (h1 : ag = true) (h2 : 0 < mk) (h : Sx D A ad Ks (lay tc ad gm dz (LL Z)) s H locs) (hl : lv_has ls 18 [(15, .int (bI ag)), (14, .int (nI mk)), (12, .int (nI k)), (11, .int (nI d)), (10, .int (nI gn)), (0, .ref (ad (0, 0, 0, 0))), (1, .ref (ad (35, 0, 0, 0))), (2, .ref (ad (37, 0, 0, 0))), (3, .ref (ad (39, 0, 0, 0))), (4, .ref (ad (43, 0, 0, 0))), (5, .ref (ad (41, 0, 0, 0))), (6, .ref (ad (42, 0, 0, 0))), (7, .ref (ad (40, 0, 0, 0))), (8, .ref (ad (45, 0, 0, 0))), (9, .int (nI x))])
    (kk : ∀ (H1 : Heap) (locs1 : List Loc) (ls1 : Array Slot), Sx D A ad Ks (lay tc ad gm dz (LL (mforM Z d k m))) s H1 locs1 → lv_has ls1 18 [(12, .int (nI k)), (11, .int (nI d)), (10, .int (nI (gn + 1))), (0, .ref (ad (0, 0, 0, 0))), (1, .ref (ad (35, 0, 0, 0))), (2, .ref (ad (37, 0, 0, 0))), (3, .ref (ad (39, 0, 0, 0))), (4, .ref (ad (43, 0, 0, 0))), (5, .ref (ad (41, 0, 0, 0))), (6, .ref (ad (42, 0, 0, 0))), (7, .ref (ad (40, 0, 0, 0))), (8, .ref (ad (45, 0, 0, 0))), (9, .int (nI x))] → W p l e R s mth args below meth c H1 locs1 cells slots Q (F0 mth 223 ls1 [])) : W p l e R s mth args below meth c H locs cells slots Q (F0 mth 190 ls []) := by
  obtain ⟨hx, hb, hmaxL, hown, hts⟩ := id X.1
  refine lv_iload hx hb dL_isPassed_190 (lv_at hl 0 rfl) ?_
  refine b_if_eq (tgt := 223) hx hb dL_isPassed_192 (by decide) (fun c => absurd (h1.symm.trans c) (by decide)) (fun _ => ?_)
  refine lv_iload hx hb dL_isPassed_195 (lv_at hl 1 rfl) ?_
  refine lv_if_le (tgt := 223) hx hb dL_isPassed_197 (by decide) (fun c => absurd h2 (n_le0 (by omega) c)) (fun _ => ?_)
  refine lv_aload_n hx hb dL_isPassed_200 rfl (lv_at hl 6 rfl) ?_
  refine lv_aload_n hx hb dL_isPassed_201 rfl (lv_at hl 7 rfl) ?_
  refine lv_aload_n hx hb dL_isPassed_202 rfl (lv_at hl 8 rfl) ?_
  refine lv_aload hx hb dL_isPassed_203 (lv_at hl 9 rfl) ?_
  refine lv_aload hx hb dL_isPassed_205 (lv_at hl 10 rfl) ?_
  refine lv_aload hx hb dL_isPassed_207 (lv_at hl 11 rfl) ?_
  refine lv_aload hx hb dL_isPassed_209 (lv_at hl 12 rfl) ?_
  refine lv_aload hx hb dL_isPassed_211 (lv_at hl 13 rfl) ?_
  refine lv_iload hx hb dL_isPassed_213 (lv_at hl 3 rfl) ?_
  refine lv_iload hx hb dL_isPassed_215 (lv_at hl 2 rfl) ?_
  refine x_doneV X h (x_runS X h (m_L_forgets Z hL hW hZ.1 hZ.tr n m t hN hn2 hm10 ht9 d k (by omega) (by omega) _) F_L_forgets q781 q782 rfl (Nat.le_trans (by decide) hR1) (Nat.le_trans (by decide) hR2) ⟨hcR, hsR⟩ hl.1 (Nat.le_of_ble_eq_true rfl) dL_isPassed_217 rfl) (fun H locs h => ?_)
  refine n_iinc (j := gn) (n := 1) (lv' := [(10, .int (nI (gn + 1))), (15, .int (bI ag)), (14, .int (nI mk)), (12, .int (nI k)), (11, .int (nI d)), (0, .ref (ad (0, 0, 0, 0))), (1, .ref (ad (35, 0, 0, 0))), (2, .ref (ad (37, 0, 0, 0))), (3, .ref (ad (39, 0, 0, 0))), (4, .ref (ad (43, 0, 0, 0))), (5, .ref (ad (41, 0, 0, 0))), (6, .ref (ad (42, 0, 0, 0))), (7, .ref (ad (40, 0, 0, 0))), (8, .ref (ad (45, 0, 0, 0))), (9, .int (nI x))]) hx hb dL_isPassed_220 hl (k := 4) rfl (by decide) (by decide) rfl (fun ls hl => ?_)
  exact kk H locs ls h (lv_sub hl [3, 4, 0, 5, 6, 7, 8, 9, 10, 11, 12, 13, 14] rfl)

set_option maxHeartbeats 4000000 in
set_option maxRecDepth 100000 in
theorem pa_2a (X : Cx p s mth args meth c cL_isPassed yL_isPassed.cls 18 D tc dz A) (hR1 : 12 ≤ R.frames) (hR2 : 400 ≤ R.locals) (hcR : cells ≤ R.cells) (hsR : slots ≤ R.slots) (hL : LV gm Ks) (Z : Mem) (hW : LW gm Ks) (hZ : OKX Z) (n m t : Nat) (hN : NR Z n m t) (hn2 : n ≤ 2) (hm10 : m ≤ 10) (ht9 : t ≤ 2000) (d k gn x : Nat) (hd : d < 6) (hk2 : k < 2) (ag : Bool) (mk : Nat) (hmk : mk ≤ 10) (h1 : ag = false) (h : Sx D A ad Ks (lay tc ad gm dz (LL Z)) s H locs) (hl : lv_has ls 18 [(15, .int (bI ag)), (14, .int (nI mk)), (12, .int (nI k)), (11, .int (nI d)), (10, .int (nI gn)), (0, .ref (ad (0, 0, 0, 0))), (1, .ref (ad (35, 0, 0, 0))), (2, .ref (ad (37, 0, 0, 0))), (3, .ref (ad (39, 0, 0, 0))), (4, .ref (ad (43, 0, 0, 0))), (5, .ref (ad (41, 0, 0, 0))), (6, .ref (ad (42, 0, 0, 0))), (7, .ref (ad (40, 0, 0, 0))), (8, .ref (ad (45, 0, 0, 0))), (9, .int (nI x))])
    (kk : ∀ (H1 : Heap) (locs1 : List Loc) (ls1 : Array Slot), Sx D A ad Ks (lay tc ad gm dz (LL Z)) s H1 locs1 → lv_has ls1 18 [(12, .int (nI k)), (11, .int (nI d)), (10, .int (nI gn)), (0, .ref (ad (0, 0, 0, 0))), (1, .ref (ad (35, 0, 0, 0))), (2, .ref (ad (37, 0, 0, 0))), (3, .ref (ad (39, 0, 0, 0))), (4, .ref (ad (43, 0, 0, 0))), (5, .ref (ad (41, 0, 0, 0))), (6, .ref (ad (42, 0, 0, 0))), (7, .ref (ad (40, 0, 0, 0))), (8, .ref (ad (45, 0, 0, 0))), (9, .int (nI x))] → W p l e R s mth args below meth c H1 locs1 cells slots Q (F0 mth 223 ls1 [])) : W p l e R s mth args below meth c H locs cells slots Q (F0 mth 190 ls []) := by
  obtain ⟨hx, hb, hmaxL, hown, hts⟩ := id X.1
  refine lv_iload hx hb dL_isPassed_190 (lv_at hl 0 rfl) ?_
  refine b_if_eq (tgt := 223) hx hb dL_isPassed_192 (by decide) (fun _ => ?_) (fun c => absurd (h1.symm.trans c) (by decide))
  exact kk H locs ls h (lv_sub hl [2, 3, 4, 5, 6, 7, 8, 9, 10, 11, 12, 13, 14] rfl)

set_option maxHeartbeats 4000000 in
set_option maxRecDepth 100000 in
theorem pa_2b (X : Cx p s mth args meth c cL_isPassed yL_isPassed.cls 18 D tc dz A) (hR1 : 12 ≤ R.frames) (hR2 : 400 ≤ R.locals) (hcR : cells ≤ R.cells) (hsR : slots ≤ R.slots) (hL : LV gm Ks) (Z : Mem) (hW : LW gm Ks) (hZ : OKX Z) (n m t : Nat) (hN : NR Z n m t) (hn2 : n ≤ 2) (hm10 : m ≤ 10) (ht9 : t ≤ 2000) (d k gn x : Nat) (hd : d < 6) (hk2 : k < 2) (ag : Bool) (mk : Nat) (hmk : mk ≤ 10) (h1 : ag = true) (h2 : mk = 0) (h : Sx D A ad Ks (lay tc ad gm dz (LL Z)) s H locs) (hl : lv_has ls 18 [(15, .int (bI ag)), (14, .int (nI mk)), (12, .int (nI k)), (11, .int (nI d)), (10, .int (nI gn)), (0, .ref (ad (0, 0, 0, 0))), (1, .ref (ad (35, 0, 0, 0))), (2, .ref (ad (37, 0, 0, 0))), (3, .ref (ad (39, 0, 0, 0))), (4, .ref (ad (43, 0, 0, 0))), (5, .ref (ad (41, 0, 0, 0))), (6, .ref (ad (42, 0, 0, 0))), (7, .ref (ad (40, 0, 0, 0))), (8, .ref (ad (45, 0, 0, 0))), (9, .int (nI x))])
    (kk : ∀ (H1 : Heap) (locs1 : List Loc) (ls1 : Array Slot), Sx D A ad Ks (lay tc ad gm dz (LL Z)) s H1 locs1 → lv_has ls1 18 [(12, .int (nI k)), (11, .int (nI d)), (10, .int (nI gn)), (0, .ref (ad (0, 0, 0, 0))), (1, .ref (ad (35, 0, 0, 0))), (2, .ref (ad (37, 0, 0, 0))), (3, .ref (ad (39, 0, 0, 0))), (4, .ref (ad (43, 0, 0, 0))), (5, .ref (ad (41, 0, 0, 0))), (6, .ref (ad (42, 0, 0, 0))), (7, .ref (ad (40, 0, 0, 0))), (8, .ref (ad (45, 0, 0, 0))), (9, .int (nI x))] → W p l e R s mth args below meth c H1 locs1 cells slots Q (F0 mth 223 ls1 [])) : W p l e R s mth args below meth c H locs cells slots Q (F0 mth 190 ls []) := by
  obtain ⟨hx, hb, hmaxL, hown, hts⟩ := id X.1
  refine lv_iload hx hb dL_isPassed_190 (lv_at hl 0 rfl) ?_
  refine b_if_eq (tgt := 223) hx hb dL_isPassed_192 (by decide) (fun c => absurd (h1.symm.trans c) (by decide)) (fun _ => ?_)
  refine lv_iload hx hb dL_isPassed_195 (lv_at hl 1 rfl) ?_
  refine lv_if_le (tgt := 223) hx hb dL_isPassed_197 (by decide) (fun _ => ?_) (fun c => absurd (n_gt0 (a := mk) (by omega) c) (by omega))
  exact kk H locs ls h (lv_sub hl [2, 3, 4, 5, 6, 7, 8, 9, 10, 11, 12, 13, 14] rfl)

set_option maxHeartbeats 4000000 in
theorem pa_entry (X : Cx p s mth args meth c cL_isPassed yL_isPassed.cls 18 D tc dz A) (hR1 : 12 ≤ R.frames) (hR2 : 400 ≤ R.locals) (hcR : cells ≤ R.cells) (hsR : slots ≤ R.slots) (hL : LV gm Ks) (Z : Mem) (hW : LW gm Ks) (hZ : OKX Z) (n m t : Nat) (hN : NR Z n m t) (hn2 : n ≤ 2) (hm10 : m ≤ 10) (ht9 : t ≤ 2000) (d k gn x : Nat) (hd : d < 6) (hk2 : k < 2) (h : Sx D A ad Ks (lay tc ad gm dz (LL Z)) s H locs) (hl : lv_has ls 18 [(12, .int (nI k)), (11, .int (nI d)), (10, .int (nI gn)), (0, .ref (ad (0, 0, 0, 0))), (1, .ref (ad (35, 0, 0, 0))), (2, .ref (ad (37, 0, 0, 0))), (3, .ref (ad (39, 0, 0, 0))), (4, .ref (ad (43, 0, 0, 0))), (5, .ref (ad (41, 0, 0, 0))), (6, .ref (ad (42, 0, 0, 0))), (7, .ref (ad (40, 0, 0, 0))), (8, .ref (ad (45, 0, 0, 0))), (9, .int (nI x))])
    (kk : ∀ (H1 : Heap) (locs1 : List Loc) (ls1 : Array Slot), Sx D A ad Ks (lay tc ad gm dz (LL (if mpB Z d k m then mforM Z d k m else Z))) s H1 locs1 → lv_has ls1 18 [(12, .int (nI k)), (11, .int (nI d)), (10, .int (nI (gn + if mpB Z d k m then 1 else 0))), (0, .ref (ad (0, 0, 0, 0))), (1, .ref (ad (35, 0, 0, 0))), (2, .ref (ad (37, 0, 0, 0))), (3, .ref (ad (39, 0, 0, 0))), (4, .ref (ad (43, 0, 0, 0))), (5, .ref (ad (41, 0, 0, 0))), (6, .ref (ad (42, 0, 0, 0))), (7, .ref (ad (40, 0, 0, 0))), (8, .ref (ad (45, 0, 0, 0))), (9, .int (nI x))] → W p l e R s mth args below meth c H1 locs1 cells slots Q (F0 mth 223 ls1 [])) : W p l e R s mth args below meth c H locs cells slots Q (F0 mth 63 ls []) := by
  refine pa_1 X hR1 hR2 hcR hsR hL Z hW hZ n m t hN hn2 hm10 ht9 d k gn x hd hk2 h hl (fun H locs ls h hl => ?_)
  have hmk : agN Z d k m ≤ 10 := Nat.le_trans (agN_le Z d k m) hm10
  have he := mpB_eq (Z := Z) (D := d) (k := k) (m := m)
  cases h1 : (decide (1 < mstR Z d k m) && agC Z d k m) with
  | false =>
    rw [h1] at he hl
    rw [show mpB Z d k m = false from he, if_neg (by decide), if_neg (by decide)] at kk
    refine pa_2a X hR1 hR2 hcR hsR hL Z hW hZ n m t hN hn2 hm10 ht9 d k gn x hd hk2 false (agN Z d k m) hmk rfl h hl (fun H locs ls h hl => ?_)
    exact kk H locs ls h hl
  | true =>
    rw [h1, Bool.true_and] at he
    rw [h1] at hl
    by_cases h2 : 0 < agN Z d k m
    · rw [show mpB Z d k m = true from he.trans (decide_eq_true h2), if_pos rfl, if_pos rfl] at kk
      refine pa_2y X hR1 hR2 hcR hsR hL Z hW hZ n m t hN hn2 hm10 ht9 d k gn x hd hk2 true (agN Z d k m) hmk rfl h2 h hl (fun H locs ls h hl => ?_)
      exact kk H locs ls h hl
    · rw [show mpB Z d k m = false from he.trans (decide_eq_false h2), if_neg (by decide), if_neg (by decide)] at kk
      refine pa_2b X hR1 hR2 hcR hsR hL Z hW hZ n m t hN hn2 hm10 ht9 d k gn x hd hk2 true (agN Z d k m) hmk rfl (by omega) h hl (fun H locs ls h hl => ?_)
      exact kk H locs ls h hl

end SEGS

set_option maxHeartbeats 4000000 in
set_option maxRecDepth 100000 in
theorem m_L_isPassed_A {l : Launch} {D : va_G} {tc : TC} {dz : Nat} {ad : KN → Nat} {Ks : List KN} {gm : GM} (Y : Mem) (hL : LV gm Ks) (hst : l.stackTraces = false) (hG2 : GM2 gm) (n : Nat) (mcs : Nat → Nat) (hBK : BK gm (LL Y) 0 n mcs) (x : Nat) (hcs : 24 < x) (hx2 : x < 100) : MK l yL_isPassed cL_isPassed 18 (Option.some ClassFile.FieldType.boolean) 13 420 1 6 D tc dz ad Ks (lay tc ad gm dz (LL Y)) [.ref (ad (0, 0, 0, 0)), .ref (ad (35, 0, 0, 0)), .ref (ad (37, 0, 0, 0)), .ref (ad (39, 0, 0, 0)), .ref (ad (43, 0, 0, 0)), .ref (ad (41, 0, 0, 0)), .ref (ad (42, 0, 0, 0)), .ref (ad (40, 0, 0, 0)), .ref (ad (45, 0, 0, 0)), .int (nI x)] (bI true) (lay tc ad gm dz (LL Y)) := by
  intro sz
  refine x_ofW (by decide +kernel) (Nat.le_of_ble_eq_true rfl) (fun pp ee s mm bel meth cd ls X hr hin hz h hl => ?_)
  subst hz
  obtain ⟨hx, hb, hmaxL, hown, hts⟩ := id X.1
  have hl : lv_has ls 18 [(0, .ref (ad (0, 0, 0, 0))), (1, .ref (ad (35, 0, 0, 0))), (2, .ref (ad (37, 0, 0, 0))), (3, .ref (ad (39, 0, 0, 0))), (4, .ref (ad (43, 0, 0, 0))), (5, .ref (ad (41, 0, 0, 0))), (6, .ref (ad (42, 0, 0, 0))), (7, .ref (ad (40, 0, 0, 0))), (8, .ref (ad (45, 0, 0, 0))), (9, .int (nI x))] := hl
  refine lv_iload hx hb dL_isPassed_0 (lv_at hl 9 rfl) ?_
  refine lv_bipush (v := nI 24) hx hb dL_isPassed_2 (by decide) ?_
  refine n_icmp_le (tgt := 29) hx hb (by omega) (by omega) dL_isPassed_4 (by decide) (fun c_4 => ?_) (fun c_4 => ?_)
  · skip
    exact absurd hcs (by omega)
  · skip
    refine lv_aload_n hx hb dL_isPassed_7 rfl (lv_at hl 0 rfl) ?_
    refine lv_iconst (v := nI 5) hx hb dL_isPassed_8 (by decide) ?_
    refine lv_iload hx hb dL_isPassed_9 (lv_at hl 9 rfl) ?_
    refine lv_iconst (v := nI 0) hx hb dL_isPassed_11 (by decide) ?_
    refine lv_iconst (v := nI 0) hx hb dL_isPassed_12 (by decide) ?_
    refine lv_iconst (v := nI 0) hx hb dL_isPassed_13 (by decide) ?_
    refine x_doneI X h (x_runSH (n := 6) X h (w_does_pass_A (LL Y) hL (lv := 9) (by decide) (nI x) (nI 0) (nI 0) (nI 0) (x_X6_pass_1 (LL Y) hst hL hG2.ok n mcs hBK (nI x) (pass_bad hcs hx2)) _) q378 q5 q376 q377 ⟨by decide, by decide, by decide +kernel⟩ rfl (Nat.le_of_ble_eq_true rfl) (Nat.le_of_ble_eq_true rfl) ⟨Nat.le_of_ble_eq_true rfl, Nat.le_of_ble_eq_true rfl⟩ hl.1 (Nat.le_of_ble_eq_true rfl) dL_isPassed_14 rfl) (fun H locs h => ?_)
    refine lv_sipush (v := (-200)) hx hb dL_isPassed_17 (by decide) ?_
    refine lv_icmp_ne (tgt := 27) hx hb dL_isPassed_20 (by decide) (fun c => absurd rfl c) (fun _ => ?_)
    refine lv_iconst (v := nI 1) hx hb dL_isPassed_23 (by decide) ?_
    refine lv_goto (tgt := 28) hx hb dL_isPassed_24 (by decide) ?_
    exact x_iret X h hr (by decide) rfl (fun _ _ => rfl) dL_isPassed_28

set_option maxHeartbeats 4000000 in
set_option maxRecDepth 100000 in
theorem m_L_isPassed_ok {l : Launch} {D : va_G} {tc : TC} {dz : Nat} {ad : KN → Nat} {Ks : List KN} {gm : GM} (Y : Mem) (hL : LV gm Ks) (hst : l.stackTraces = false) (hW : LW gm Ks) (hG2 : GM2 gm) (V : Nat → BS) (acts : Nat → Act) (z n m t : Nat) (ac mcs : Nat → Nat) (cn : Nat) (hS : LWS Y gm V acts z n m t ac mcs cn) (hcn : cn < 58) (x : Nat) (hx0 : 0 < x) (hx24 : x ≤ 24) : MK l yL_isPassed cL_isPassed 18 (Option.some ClassFile.FieldType.boolean) 13 420 0 0 D tc dz ad Ks (lay tc ad gm dz (LL Y)) [.ref (ad (0, 0, 0, 0)), .ref (ad (35, 0, 0, 0)), .ref (ad (37, 0, 0, 0)), .ref (ad (39, 0, 0, 0)), .ref (ad (43, 0, 0, 0)), .ref (ad (41, 0, 0, 0)), .ref (ad (42, 0, 0, 0)), .ref (ad (40, 0, 0, 0)), .ref (ad (45, 0, 0, 0)), .int (nI x)] (bI true) (lay tc ad gm dz (pasM (jwM (LL (mpD Y (nI x) n m 6)) z (nI 5) (nI x) (nI 0) (nI 0) (nI 0)) 0 mcs (nI x) n)) := by
  intro sz
  have hok := hS.2.1
  have hn2 := hS.2.2.1
  have hm10 := hS.2.2.2
  have hN := nr_of hS.1.1
  have ht9 : t ≤ 2000 := by have := hS.1.2.2.2.2.2.2.2.2.2.1; omega
  have hG : ∀ k : KN, k.1 < 30 → mpD Y (nI x) n m 6 k = Y k := fun k hk => mpD_lo hk 6
  have hz6 : z < 512 := Nat.lt_of_le_of_lt hS.1.2.2.2.2.2.2.2.1 (by omega)
  have htx : t + x ≤ 2000 := by have := hS.1.2.2.2.2.2.2.2.2.2.1; omega
  have hEq : nI (pasN (jwM (LL (mpD Y (nI x) n m 6)) z (nI 5) (nI x) (nI 0) (nI 0) (nI 0)) 0 mcs (nI x) n) = nI (mpDn Y (nI x) n m 6) := by rw [(st_pass hS hcn hx24).2]
  have hgD := mpDn_le (I := Y) (x := nI x) (n := n) (m := m)
  have hgE := fun J d => mpEn_le (J := J) (d := d) (m := m)
  have hoD := fun D => ok_mpD (n := n) (m := m) (x := x) hok hN.2.1 (by omega) D
  refine x_ofW (by decide +kernel) (Nat.le_of_ble_eq_true rfl) (fun pp ee s mm bel meth cd ls X hr hin hz h hl => ?_)
  subst hz
  obtain ⟨hx, hb, hmaxL, hown, hts⟩ := id X.1
  have hl : lv_has ls 18 [(0, .ref (ad (0, 0, 0, 0))), (1, .ref (ad (35, 0, 0, 0))), (2, .ref (ad (37, 0, 0, 0))), (3, .ref (ad (39, 0, 0, 0))), (4, .ref (ad (43, 0, 0, 0))), (5, .ref (ad (41, 0, 0, 0))), (6, .ref (ad (42, 0, 0, 0))), (7, .ref (ad (40, 0, 0, 0))), (8, .ref (ad (45, 0, 0, 0))), (9, .int (nI x))] := hl
  refine lv_iload hx hb dL_isPassed_0 (lv_at hl 9 rfl) ?_
  refine lv_bipush (v := nI 24) hx hb dL_isPassed_2 (by decide) ?_
  refine n_icmp_le (tgt := 29) hx hb (by omega) (by omega) dL_isPassed_4 (by decide) (fun c_4 => ?_) (fun c_4 => ?_)
  · skip
    refine lv_aload hx hb dL_isPassed_29 (lv_at hl 8 rfl) ?_
    refine lv_iconst (v := nI 1) hx hb dL_isPassed_31 (by decide) ?_
    refine lv_dup2_11 hx hb dL_isPassed_32 rfl rfl ?_
    refine y_ald X h (fun _ => rfl) (by decide) (hL (45, 0, 0, 0) ⟨by decide, rfl, rfl, rfl⟩) (by omega) (v := nI t) (gc_1.trans hN.2.1) dL_isPassed_33 ?_
    refine lv_iload hx hb dL_isPassed_34 (lv_at hl 9 rfl) ?_
    refine n_iadd hx hb dL_isPassed_36 ?_
    refine y_ast X h (fun _ => rfl) (by decide) (hL (45, 0, 0, 0) ⟨by decide, rfl, rfl, rfl⟩) (by omega) dL_isPassed_37 (fun H locs h => ?_)
    have h := h.law hW (mp0_LAe (n := n) (m := m) hN.2.1)
    refine lv_iconst (v := nI 0) hx hb dL_isPassed_38 (by decide) ?_
    refine lv_istore (lv' := [(10, .int (nI 0)), (0, .ref (ad (0, 0, 0, 0))), (1, .ref (ad (35, 0, 0, 0))), (2, .ref (ad (37, 0, 0, 0))), (3, .ref (ad (39, 0, 0, 0))), (4, .ref (ad (43, 0, 0, 0))), (5, .ref (ad (41, 0, 0, 0))), (6, .ref (ad (42, 0, 0, 0))), (7, .ref (ad (40, 0, 0, 0))), (8, .ref (ad (45, 0, 0, 0))), (9, .int (nI x))]) hx hb dL_isPassed_39 hl (by decide) rfl (fun ls hl => ?_)
    refine lv_iconst (v := nI 0) hx hb dL_isPassed_41 (by decide) ?_
    refine lv_istore (lv' := [(11, .int (nI 0)), (10, .int (nI 0)), (0, .ref (ad (0, 0, 0, 0))), (1, .ref (ad (35, 0, 0, 0))), (2, .ref (ad (37, 0, 0, 0))), (3, .ref (ad (39, 0, 0, 0))), (4, .ref (ad (43, 0, 0, 0))), (5, .ref (ad (41, 0, 0, 0))), (6, .ref (ad (42, 0, 0, 0))), (7, .ref (ad (40, 0, 0, 0))), (8, .ref (ad (45, 0, 0, 0))), (9, .int (nI x))]) hx hb dL_isPassed_42 hl (by decide) rfl (fun ls hl => ?_)
    refine y_loop (D := D) (A := wA ad Ks s.heap.size) (ad := ad) (Ks := Ks) (nL := 18) (fun d : Nat => lay tc ad gm dz (LL (mpD Y (nI x) n m d))) (fun d => [(11, .int (nI d)), (10, .int (nI (mpDn Y (nI x) n m d))), (0, .ref (ad (0, 0, 0, 0))), (1, .ref (ad (35, 0, 0, 0))), (2, .ref (ad (37, 0, 0, 0))), (3, .ref (ad (39, 0, 0, 0))), (4, .ref (ad (43, 0, 0, 0))), (5, .ref (ad (41, 0, 0, 0))), (6, .ref (ad (42, 0, 0, 0))), (7, .ref (ad (40, 0, 0, 0))), (8, .ref (ad (45, 0, 0, 0))), (9, .int (nI x))]) (fun _ => []) (fun d : Nat => d ≤ 6) (fun d => 6 - d) (fun d hi44 ih44 H locs ls h hl => ?_) 0 (Nat.zero_le _) (h.eq (congrArg (lay tc ad gm dz) rfl)) (lv_sub hl [0, 1, 2, 3, 4, 5, 6, 7, 8, 9, 10, 11] rfl) rfl
    have h : Sx D (wA ad Ks s.heap.size) ad Ks (lay tc ad gm dz (LL (mpD Y (nI x) n m d))) s H locs := h
    have hl : lv_has ls 18 [(11, .int (nI d)), (10, .int (nI (mpDn Y (nI x) n m d))), (0, .ref (ad (0, 0, 0, 0))), (1, .ref (ad (35, 0, 0, 0))), (2, .ref (ad (37, 0, 0, 0))), (3, .ref (ad (39, 0, 0, 0))), (4, .ref (ad (43, 0, 0, 0))), (5, .ref (ad (41, 0, 0, 0))), (6, .ref (ad (42, 0, 0, 0))), (7, .ref (ad (40, 0, 0, 0))), (8, .ref (ad (45, 0, 0, 0))), (9, .int (nI x))] := hl
    refine lv_iload hx hb dL_isPassed_44 (lv_at hl 0 rfl) ?_
    refine lv_bipush (v := nI 6) hx hb dL_isPassed_46 (by decide) ?_
    refine n_icmp_ge (tgt := 235) hx hb (by omega) (by omega) dL_isPassed_48 (by decide) (fun c_48 => ?_) (fun c_48 => ?_)
    · skip
      have him : d = 6 := by omega
      rw [him] at h hl
      refine lv_aload_n hx hb dL_isPassed_235 rfl (lv_at hl 2 rfl) ?_
      refine lv_iconst (v := nI 5) hx hb dL_isPassed_236 (by decide) ?_
      refine lv_iload hx hb dL_isPassed_237 (lv_at hl 11 rfl) ?_
      refine lv_iconst (v := nI 0) hx hb dL_isPassed_239 (by decide) ?_
      refine lv_iconst (v := nI 0) hx hb dL_isPassed_240 (by decide) ?_
      refine lv_iconst (v := nI 0) hx hb dL_isPassed_241 (by decide) ?_
      refine x_doneI X h (x_runSH (n := 6) X h (w_does_pass_ok (LL (mpD Y (nI x) n m 6)) hL (lv := 9) (by decide) (nI x) (nI 0) (nI 0) (nI 0) (m_X6_pass (LL (mpD Y (nI x) n m 6)) hL hG2.ok n mcs (lb_bk hS.1 hG) z (lb_z hS.1 hG) hz6 (nI x) (pass_good hx0 hx24)) _) q378 q5 q376 q377 ⟨by decide, by decide, by decide +kernel⟩ rfl (Nat.le_of_ble_eq_true rfl) (Nat.le_of_ble_eq_true rfl) ⟨Nat.le_of_ble_eq_true rfl, Nat.le_of_ble_eq_true rfl⟩ hl.1 (Nat.le_of_ble_eq_true rfl) dL_isPassed_242 rfl) (fun H locs h => ?_)
      refine lv_iload hx hb dL_isPassed_245 (lv_at hl 1 rfl) ?_
      refine lv_icmp_ne (tgt := 254) hx hb dL_isPassed_247 (by decide) (fun c => absurd hEq c) (fun _ => ?_)
      refine lv_iconst (v := nI 1) hx hb dL_isPassed_250 (by decide) ?_
      refine lv_goto (tgt := 255) hx hb dL_isPassed_251 (by decide) ?_
      exact x_iret X h hr (by decide) rfl (fun _ _ => rfl) dL_isPassed_255
    · skip
      refine lv_iconst (v := nI 0) hx hb dL_isPassed_51 (by decide) ?_
      refine lv_istore (lv' := [(12, .int (nI 0)), (11, .int (nI d)), (10, .int (nI (mpDn Y (nI x) n m d))), (0, .ref (ad (0, 0, 0, 0))), (1, .ref (ad (35, 0, 0, 0))), (2, .ref (ad (37, 0, 0, 0))), (3, .ref (ad (39, 0, 0, 0))), (4, .ref (ad (43, 0, 0, 0))), (5, .ref (ad (41, 0, 0, 0))), (6, .ref (ad (42, 0, 0, 0))), (7, .ref (ad (40, 0, 0, 0))), (8, .ref (ad (45, 0, 0, 0))), (9, .int (nI x))]) hx hb dL_isPassed_52 hl (by decide) rfl (fun ls hl => ?_)
      refine y_loop (D := D) (A := wA ad Ks s.heap.size) (ad := ad) (Ks := Ks) (nL := 18) (fun k : Nat => lay tc ad gm dz (LL (mpE (mpD Y (nI x) n m d) d m k))) (fun k => [(12, .int (nI k)), (11, .int (nI d)), (10, .int (nI (mpDn Y (nI x) n m d + mpEn (mpD Y (nI x) n m d) d m k))), (0, .ref (ad (0, 0, 0, 0))), (1, .ref (ad (35, 0, 0, 0))), (2, .ref (ad (37, 0, 0, 0))), (3, .ref (ad (39, 0, 0, 0))), (4, .ref (ad (43, 0, 0, 0))), (5, .ref (ad (41, 0, 0, 0))), (6, .ref (ad (42, 0, 0, 0))), (7, .ref (ad (40, 0, 0, 0))), (8, .ref (ad (45, 0, 0, 0))), (9, .int (nI x))]) (fun _ => []) (fun k : Nat => k ≤ n) (fun k => n - k) (fun k hi54 ih54 H locs ls h hl => ?_) 0 (Nat.zero_le _) (h.eq (congrArg (lay tc ad gm dz) rfl)) (lv_sub hl [0, 1, 2, 3, 4, 5, 6, 7, 8, 9, 10, 11, 12] rfl) rfl
      have h : Sx D (wA ad Ks s.heap.size) ad Ks (lay tc ad gm dz (LL (mpE (mpD Y (nI x) n m d) d m k))) s H locs := h
      have hl : lv_has ls 18 [(12, .int (nI k)), (11, .int (nI d)), (10, .int (nI (mpDn Y (nI x) n m d + mpEn (mpD Y (nI x) n m d) d m k))), (0, .ref (ad (0, 0, 0, 0))), (1, .ref (ad (35, 0, 0, 0))), (2, .ref (ad (37, 0, 0, 0))), (3, .ref (ad (39, 0, 0, 0))), (4, .ref (ad (43, 0, 0, 0))), (5, .ref (ad (41, 0, 0, 0))), (6, .ref (ad (42, 0, 0, 0))), (7, .ref (ad (40, 0, 0, 0))), (8, .ref (ad (45, 0, 0, 0))), (9, .int (nI x))] := hl
      refine lv_iload hx hb dL_isPassed_54 (lv_at hl 0 rfl) ?_
      refine lv_aload hx hb dL_isPassed_56 (lv_at hl 11 rfl) ?_
      refine lv_iconst (v := nI 0) hx hb dL_isPassed_58 (by decide) ?_
      refine y_ald X h (fun _ => rfl) (by decide) (hL (45, 0, 0, 0) ⟨by decide, rfl, rfl, rfl⟩) (by omega) (v := nI n) (gc_0.trans (nr_mpE (nr_mpD hN d) k).1) dL_isPassed_59 ?_
      refine n_icmp_ge (tgt := 229) hx hb (by omega) (by omega) dL_isPassed_60 (by decide) (fun c_60 => ?_) (fun c_60 => ?_)
      · skip
        have him : k = n := by omega
        rw [him] at h hl
        have h : Sx D (wA ad Ks s.heap.size) ad Ks (lay tc ad gm dz (LL (mpD Y (nI x) n m (d + 1)))) s H locs := h
        have hl : lv_has ls 18 [(12, .int (nI n)), (11, .int (nI d)), (10, .int (nI (mpDn Y (nI x) n m (d + 1)))), (0, .ref (ad (0, 0, 0, 0))), (1, .ref (ad (35, 0, 0, 0))), (2, .ref (ad (37, 0, 0, 0))), (3, .ref (ad (39, 0, 0, 0))), (4, .ref (ad (43, 0, 0, 0))), (5, .ref (ad (41, 0, 0, 0))), (6, .ref (ad (42, 0, 0, 0))), (7, .ref (ad (40, 0, 0, 0))), (8, .ref (ad (45, 0, 0, 0))), (9, .int (nI x))] := hl
        refine n_iinc (j := d) (n := 1) (lv' := [(11, .int (nI (d + 1))), (12, .int (nI n)), (10, .int (nI (mpDn Y (nI x) n m (d + 1)))), (0, .ref (ad (0, 0, 0, 0))), (1, .ref (ad (35, 0, 0, 0))), (2, .ref (ad (37, 0, 0, 0))), (3, .ref (ad (39, 0, 0, 0))), (4, .ref (ad (43, 0, 0, 0))), (5, .ref (ad (41, 0, 0, 0))), (6, .ref (ad (42, 0, 0, 0))), (7, .ref (ad (40, 0, 0, 0))), (8, .ref (ad (45, 0, 0, 0))), (9, .int (nI x))]) hx hb dL_isPassed_229 hl (k := 1) rfl (by decide) (by decide) rfl (fun ls hl => ?_)
        refine lv_goto (tgt := 44) hx hb dL_isPassed_232 (by decide) ?_
        exact ih44 (d + 1) (by omega) (by omega) H locs ls (h.eq (congrArg (lay tc ad gm dz) rfl)) (lv_sub hl [0, 2, 3, 4, 5, 6, 7, 8, 9, 10, 11, 12] rfl)
      · skip
        have hgE9 := hgE (mpD Y (nI x) n m d) d k
        have hgD9 := hgD d
        have hnd : n * d ≤ 2 * d := Nat.mul_le_mul_right d hn2
        refine pa_entry X (Nat.le_of_ble_eq_true rfl) (Nat.le_of_ble_eq_true rfl) (Nat.le_of_ble_eq_true rfl) (Nat.le_of_ble_eq_true rfl) hL (mpE (mpD Y (nI x) n m d) d m k) hW (ok_mpE (hoD d) k) n m (t + x) (nr_mpE (nr_mpD hN d) k) hn2 hm10 htx d k (mpDn Y (nI x) n m d + mpEn (mpD Y (nI x) n m d) d m k) x c_48 (by omega) h (lv_sub hl [0, 1, 2, 3, 4, 5, 6, 7, 8, 9, 10, 11, 12] rfl) (fun H locs ls h hl => ?_)
        have h : Sx D (wA ad Ks s.heap.size) ad Ks (lay tc ad gm dz (LL (mpE (mpD Y (nI x) n m d) d m (k + 1)))) s H locs := h
        have hl : lv_has ls 18 [(12, .int (nI k)), (11, .int (nI d)), (10, .int (nI (mpDn Y (nI x) n m d + mpEn (mpD Y (nI x) n m d) d m (k + 1)))), (0, .ref (ad (0, 0, 0, 0))), (1, .ref (ad (35, 0, 0, 0))), (2, .ref (ad (37, 0, 0, 0))), (3, .ref (ad (39, 0, 0, 0))), (4, .ref (ad (43, 0, 0, 0))), (5, .ref (ad (41, 0, 0, 0))), (6, .ref (ad (42, 0, 0, 0))), (7, .ref (ad (40, 0, 0, 0))), (8, .ref (ad (45, 0, 0, 0))), (9, .int (nI x))] := by rw [show mpDn Y (nI x) n m d + mpEn (mpD Y (nI x) n m d) d m (k + 1) = mpDn Y (nI x) n m d + mpEn (mpD Y (nI x) n m d) d m k + (if mpB (mpE (mpD Y (nI x) n m d) d m k) d k m then 1 else 0) from (Nat.add_assoc _ _ _).symm]; exact hl
        refine n_iinc (j := k) (n := 1) (lv' := [(12, .int (nI (k + 1))), (11, .int (nI d)), (10, .int (nI (mpDn Y (nI x) n m d + mpEn (mpD Y (nI x) n m d) d m (k + 1)))), (0, .ref (ad (0, 0, 0, 0))), (1, .ref (ad (35, 0, 0, 0))), (2, .ref (ad (37, 0, 0, 0))), (3, .ref (ad (39, 0, 0, 0))), (4, .ref (ad (43, 0, 0, 0))), (5, .ref (ad (41, 0, 0, 0))), (6, .ref (ad (42, 0, 0, 0))), (7, .ref (ad (40, 0, 0, 0))), (8, .ref (ad (45, 0, 0, 0))), (9, .int (nI x))]) hx hb dL_isPassed_223 hl (k := 0) rfl (by decide) (by decide) rfl (fun ls hl => ?_)
        refine lv_goto (tgt := 54) hx hb dL_isPassed_226 (by decide) ?_
        exact ih54 (k + 1) (by omega) (by omega) H locs ls (h.eq (congrArg (lay tc ad gm dz) rfl)) (lv_sub hl [0, 1, 2, 3, 4, 5, 6, 7, 8, 9, 10, 11, 12] rfl)
  · skip
    exact absurd hx24 (by omega)
