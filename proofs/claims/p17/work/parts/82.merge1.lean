/-! notes merged, as the law does it -/
theorem NM_0 (Z : Mem) (d o k : Nat) : LL Z = sset (LL Z) (39, 0, 0, 0) (ntN Z d o k (6 * 0)) := by
  rw [Nat.mul_zero, ntN_0, show Z (39, 0, 0, 0) = LL Z (39, 0, 0, 0) from (LL_see (by decide)).symm, sset_id]
theorem NM_at {Z : Mem} {d o k f j : Nat} (hk : k < 2) (hne : d ≠ o) (hf : f < 4) (hj : j < 6) : ntN Z d o k (6 * f) (24 * (10 * d + k) + 6 * f + j) = Z (39, 0, 0, 0) (24 * (10 * d + k) + 6 * f + j) ∧ ntN Z d o k (6 * f) (24 * (10 * o + k) + 6 * f + j) = Z (39, 0, 0, 0) (24 * (10 * o + k) + 6 * f + j) := by
  unfold ntN
  rw [rf_out (by omega), rf_out (by omega), rf_out (by omega), rf_out (by omega)]
  exact ⟨rfl, rfl⟩
theorem ntN_six {Z : Mem} {d o k f : Nat} (hk : k < 2) (hne : d ≠ o) (hf : f < 4) : st6 (st6 (ntN Z d o k (6 * f)) (24 * (10 * d + k) + 6 * f) (gM (rw6 (Z (39, 0, 0, 0)) (24 * (10 * d + k) + 6 * f)) (rw6 (Z (39, 0, 0, 0)) (24 * (10 * o + k) + 6 * f)))) (24 * (10 * o + k) + 6 * f) (gM (rw6 (Z (39, 0, 0, 0)) (24 * (10 * d + k) + 6 * f)) (rw6 (Z (39, 0, 0, 0)) (24 * (10 * o + k) + 6 * f))) = ntN Z d o k (6 * (f + 1)) := by
  funext x
  by_cases q2 : 24 * (10 * o + k) + 6 * f ≤ x ∧ x < 24 * (10 * o + k) + 6 * f + 6
  · obtain ⟨j, hj, rfl⟩ : ∃ j, j < 6 ∧ x = 24 * (10 * o + k) + 6 * f + j := ⟨x - (24 * (10 * o + k) + 6 * f), by omega, by omega⟩
    rw [st6_in hj]
    unfold ntN
    rw [rf_in (by omega)]
    show imax (Z (39, 0, 0, 0) (24 * (10 * d + k) + 6 * f + j)) (Z (39, 0, 0, 0) (24 * (10 * o + k) + 6 * f + j)) = _
    rw [show 24 * (10 * d + k) + (24 * (10 * o + k) + 6 * f + j - 24 * (10 * o + k)) = 24 * (10 * d + k) + 6 * f + j by omega]
  · rw [st6_out q2]
    by_cases q1 : 24 * (10 * d + k) + 6 * f ≤ x ∧ x < 24 * (10 * d + k) + 6 * f + 6
    · obtain ⟨j, hj, rfl⟩ : ∃ j, j < 6 ∧ x = 24 * (10 * d + k) + 6 * f + j := ⟨x - (24 * (10 * d + k) + 6 * f), by omega, by omega⟩
      rw [st6_in hj]
      unfold ntN
      rw [rf_out (by omega), rf_in (by omega)]
      show imax (Z (39, 0, 0, 0) (24 * (10 * d + k) + 6 * f + j)) (Z (39, 0, 0, 0) (24 * (10 * o + k) + 6 * f + j)) = _
      rw [show 24 * (10 * o + k) + (24 * (10 * d + k) + 6 * f + j - 24 * (10 * d + k)) = 24 * (10 * o + k) + 6 * f + j by omega]
    · rw [st6_out q1]
      unfold ntN
      by_cases z2 : 24 * (10 * o + k) ≤ x ∧ x < 24 * (10 * o + k) + 6 * f
      · rw [rf_in z2, rf_in (by omega)]
      · rw [rf_out z2, rf_out (lo := 24 * (10 * o + k)) (hi := 24 * (10 * o + k) + 6 * (f + 1)) (by omega)]
        by_cases z1 : 24 * (10 * d + k) ≤ x ∧ x < 24 * (10 * d + k) + 6 * f
        · rw [rf_in z1, rf_in (lo := 24 * (10 * d + k)) (hi := 24 * (10 * d + k) + 6 * (f + 1)) (by omega)]
        · rw [rf_out z1, rf_out (lo := 24 * (10 * d + k)) (hi := 24 * (10 * d + k) + 6 * (f + 1)) (by omega)]
theorem NM_s {Z : Mem} {d o k f : Nat} (hk : k < 2) (hne : d ≠ o) (hf : f < 4) : sset (sset (sset (LL Z) (39, 0, 0, 0) (ntN Z d o k (6 * f))) (39, 0, 0, 0) (st6 (sset (LL Z) (39, 0, 0, 0) (ntN Z d o k (6 * f)) (39, 0, 0, 0)) (24 * (10 * d + k) + 6 * f) (gM (rw6 (Z (39, 0, 0, 0)) (24 * (10 * d + k) + 6 * f)) (rw6 (Z (39, 0, 0, 0)) (24 * (10 * o + k) + 6 * f))))) (39, 0, 0, 0) (st6 (sset (sset (LL Z) (39, 0, 0, 0) (ntN Z d o k (6 * f))) (39, 0, 0, 0) (st6 (sset (LL Z) (39, 0, 0, 0) (ntN Z d o k (6 * f)) (39, 0, 0, 0)) (24 * (10 * d + k) + 6 * f) (gM (rw6 (Z (39, 0, 0, 0)) (24 * (10 * d + k) + 6 * f)) (rw6 (Z (39, 0, 0, 0)) (24 * (10 * o + k) + 6 * f)))) (39, 0, 0, 0)) (24 * (10 * o + k) + 6 * f) (gM (rw6 (Z (39, 0, 0, 0)) (24 * (10 * d + k) + 6 * f)) (rw6 (Z (39, 0, 0, 0)) (24 * (10 * o + k) + 6 * f)))) = sset (LL Z) (39, 0, 0, 0) (ntN Z d o k (6 * (f + 1))) := by
  rw [sset_eq, sset_eq, sset_sset, sset_sset, ntN_six hk hne hf]
theorem not_LAe {Z : Mem} {d o k : Nat} (hd : d < 6) (ho : o < 6) (hk : k < 2) (hne : d ≠ o) (h34 : Z (34, 0, 0, 0) (10 * d + k) = nI 0) (o34 : Z (34, 0, 0, 0) (10 * o + k) = nI 0) (hnt : ntH Z d o k = true) : LAe (sset (sset (sset (LL Z) (39, 0, 0, 0) (ntN Z d o k (6 * 4))) (43, 0, 0, 0) (upd (sset (LL Z) (39, 0, 0, 0) (ntN Z d o k (6 * 4)) (43, 0, 0, 0)) (2 * d + k) (nI 2))) (43, 0, 0, 0) (upd (sset (sset (LL Z) (39, 0, 0, 0) (ntN Z d o k (6 * 4))) (43, 0, 0, 0) (upd (sset (LL Z) (39, 0, 0, 0) (ntN Z d o k (6 * 4)) (43, 0, 0, 0)) (2 * d + k) (nI 2)) (43, 0, 0, 0)) (2 * o + k) (nI 2))) (LL (notM Z d o k)) := by
  have hs : ∀ kk : KN, kk.1 ≠ 43 → kk.1 ≠ 39 → sset (sset (sset (LL Z) (39, 0, 0, 0) (ntN Z d o k (6 * 4))) (43, 0, 0, 0) (upd (sset (LL Z) (39, 0, 0, 0) (ntN Z d o k (6 * 4)) (43, 0, 0, 0)) (2 * d + k) (nI 2))) (43, 0, 0, 0) (upd (sset (sset (LL Z) (39, 0, 0, 0) (ntN Z d o k (6 * 4))) (43, 0, 0, 0) (upd (sset (LL Z) (39, 0, 0, 0) (ntN Z d o k (6 * 4)) (43, 0, 0, 0)) (2 * d + k) (nI 2)) (43, 0, 0, 0)) (2 * o + k) (nI 2)) kk = LL Z kk := fun kk a b => by
    rw [sset_ne _ _ (fun q => a (by rw [q])), sset_ne _ _ (fun q => a (by rw [q])), sset_ne _ _ (fun q => b (by rw [q]))]
  have r38 : notM Z d o k (38, 0, 0, 0) = upd (upd (Z (38, 0, 0, 0)) (10 * d + k) (nI 1)) (10 * o + k) (nI 1) := by
    rw [show notM Z d o k (38, 0, 0, 0) = upd (upd (Z (38, 0, 0, 0)) (10 * d + k) (bI (ntH Z d o k))) (10 * o + k) (bI (ntH Z d o k)) from sset_eq _ _ _, hnt]
    rfl
  have r39 : notM Z d o k (39, 0, 0, 0) = ntN Z d o k 24 := by
    unfold notM
    rw [sset_ne _ _ (nek (by decide)), hnt, if_pos rfl, sset_eq]
  have ho2 : ∀ kk : KN, kk.1 ≠ 38 → kk.1 ≠ 39 → notM Z d o k kk = Z kk := fun kk a b => not_see a b
  refine ⟨fun kk hk9 => ?_, fun d2 e2 c _ _ _ => ?_, fun d2 e2 c _ _ _ => ?_, fun d2 e2 c _ _ _ => ?_, fun x hx => ?_, fun x hx => ?_, fun x hx => ?_, fun x hx => ?_, fun x hx => ?_, fun x hx => ?_⟩
  · rw [hs kk (by omega) (by omega), LL_see (by omega), LL_see (by omega), ho2 kk (by omega) (by omega)]
  · rw [hs _ (by decide) (by decide), LL_see (by decide), LL_see (by decide), ho2 _ (by decide) (by decide)]
  · rw [hs _ (by decide) (by decide), LL_see (by decide), LL_see (by decide), ho2 _ (by decide) (by decide)]
  · rw [LL_see (by decide), r39, sset_ne _ _ (nek (by decide)), sset_ne _ _ (nek (by decide)), sset_eq]
  · rw [hs _ (by decide) (by decide), LL_see (by decide), LL_see (by decide), ho2 _ (by decide) (by decide)]
  · rw [hs _ (by decide) (by decide), LL_see (by decide), LL_see (by decide), ho2 _ (by decide) (by decide)]
  · rw [hs _ (by decide) (by decide), LL_see (by decide), LL_see (by decide), ho2 _ (by decide) (by decide)]
  · rw [sset_eq, sset_eq, sset_ne _ _ (nek (by decide)), LL_43, LL_43]
    unfold kcode
    rw [r38, ho2 _ (by decide) (by decide)]
    by_cases q2 : x = 2 * o + k
    · subst q2
      rw [ud_eq, show 10 * ((2 * o + k) / 2) + (2 * o + k) % 2 = 10 * o + k by omega, ud_eq, o34, nI_mul, nI_add]
    · rw [ud_ne _ _ q2]
      by_cases q1 : x = 2 * d + k
      · subst q1
        rw [ud_eq, show 10 * ((2 * d + k) / 2) + (2 * d + k) % 2 = 10 * d + k by omega, ud_ne _ _ (by omega), ud_eq, h34, nI_mul, nI_add]
      · rw [ud_ne _ _ q1, ud_ne _ _ (by omega), ud_ne _ _ (by omega)]
  · rw [hs _ (by decide) (by decide), LL_44, LL_44]
    unfold wcode
    rw [ho2 _ (by decide) (by decide), ho2 _ (by decide) (by decide)]
  · rw [hs _ (by decide) (by decide), LL_45, LL_45]
    unfold gcode
    rw [ho2 _ (by decide) (by decide), ho2 _ (by decide) (by decide)]
section SEGS
variable {p : Program} {l : Launch} {e : Env} {R : Room} {s : State} {mth : MethodId} {args : Array Value} {below : List Frame} {meth : Method} {c : Code} {H : Heap} {locs : List Loc} {cells slots : Nat} {Q : State → Prop}
variable {D : va_G} {tc : TC} {dz : Nat} {A : Nat → Prop} {ad : KN → Nat} {Ks : List KN} {gm : GM} {ls : Array Slot}
set_option maxHeartbeats 4000000 in
set_option maxRecDepth 100000 in
theorem sg_are (X : Cx p s mth args meth c cL_isMerged yL_isMerged.cls 23 D tc dz A) (hR1 : 12 ≤ R.frames) (hR2 : 400 ≤ R.locals) (hcR : cells ≤ R.cells) (hsR : slots ≤ R.slots) (hL : LV gm Ks) (Z : Mem) (hW : LW gm Ks) (hZ : OKX Z) (n m t : Nat) (hN : NR Z n m t) (hn2 : n ≤ 2) (hm10 : m ≤ 10) (ht9 : t ≤ 2000) (d o k gn gd : Nat) (hd : d < 6) (ho : o < 6) (hk2 : k < 2) (hne : d ≠ o) (h : Sx D A ad Ks (lay tc ad gm dz (LL Z)) s H locs) (hl : lv_has ls 23 [(14, .int (nI k)), (13, .int (nI gd)), (12, .int (nI gn)), (0, .ref (ad (0, 0, 0, 0))), (1, .ref (ad (35, 0, 0, 0))), (2, .ref (ad (37, 0, 0, 0))), (3, .ref (ad (39, 0, 0, 0))), (4, .ref (ad (43, 0, 0, 0))), (5, .ref (ad (44, 0, 0, 0))), (6, .ref (ad (41, 0, 0, 0))), (7, .ref (ad (42, 0, 0, 0))), (8, .ref (ad (40, 0, 0, 0))), (9, .ref (ad (45, 0, 0, 0))), (10, .int (nI d)), (11, .int (nI o))])
    (kk : ∀ (H1 : Heap) (locs1 : List Loc) (ls1 : Array Slot), Sx D A ad Ks (lay tc ad gm dz (LL Z)) s H1 locs1 → lv_has ls1 23 [(15, .int (bI (shB Z d o k))), (14, .int (nI k)), (13, .int (nI gd)), (12, .int (nI gn)), (0, .ref (ad (0, 0, 0, 0))), (1, .ref (ad (35, 0, 0, 0))), (2, .ref (ad (37, 0, 0, 0))), (3, .ref (ad (39, 0, 0, 0))), (4, .ref (ad (43, 0, 0, 0))), (5, .ref (ad (44, 0, 0, 0))), (6, .ref (ad (41, 0, 0, 0))), (7, .ref (ad (42, 0, 0, 0))), (8, .ref (ad (40, 0, 0, 0))), (9, .ref (ad (45, 0, 0, 0))), (10, .int (nI d)), (11, .int (nI o))] → W p l e R s mth args below meth c H1 locs1 cells slots Q (F0 mth 136 ls1 [])) : W p l e R s mth args below meth c H locs cells slots Q (F0 mth 78 ls []) := by
  obtain ⟨hx, hb, hmaxL, hown, hts⟩ := id X.1
  refine lv_iconst (v := nI 0) hx hb dL_isMerged_78 (by decide) ?_
  refine lv_istore (lv' := [(15, .int (nI 0)), (14, .int (nI k)), (13, .int (nI gd)), (12, .int (nI gn)), (0, .ref (ad (0, 0, 0, 0))), (1, .ref (ad (35, 0, 0, 0))), (2, .ref (ad (37, 0, 0, 0))), (3, .ref (ad (39, 0, 0, 0))), (4, .ref (ad (43, 0, 0, 0))), (5, .ref (ad (44, 0, 0, 0))), (6, .ref (ad (41, 0, 0, 0))), (7, .ref (ad (42, 0, 0, 0))), (8, .ref (ad (40, 0, 0, 0))), (9, .ref (ad (45, 0, 0, 0))), (10, .int (nI d)), (11, .int (nI o))]) hx hb dL_isMerged_79 hl (by decide) rfl (fun ls hl => ?_)
  refine lv_iconst (v := nI 0) hx hb dL_isMerged_81 (by decide) ?_
  refine lv_istore (lv' := [(16, .int (nI 0)), (15, .int (nI 0)), (14, .int (nI k)), (13, .int (nI gd)), (12, .int (nI gn)), (0, .ref (ad (0, 0, 0, 0))), (1, .ref (ad (35, 0, 0, 0))), (2, .ref (ad (37, 0, 0, 0))), (3, .ref (ad (39, 0, 0, 0))), (4, .ref (ad (43, 0, 0, 0))), (5, .ref (ad (44, 0, 0, 0))), (6, .ref (ad (41, 0, 0, 0))), (7, .ref (ad (42, 0, 0, 0))), (8, .ref (ad (40, 0, 0, 0))), (9, .ref (ad (45, 0, 0, 0))), (10, .int (nI d)), (11, .int (nI o))]) hx hb dL_isMerged_82 hl (by decide) rfl (fun ls hl => ?_)
  refine y_loop (D := D) (A := A) (ad := ad) (Ks := Ks) (nL := 23) (fun f : Nat => lay tc ad gm dz (LL Z)) (fun f => [(16, .int (nI f)), (15, .int (bI (anyB (shP Z d o k) f))), (14, .int (nI k)), (13, .int (nI gd)), (12, .int (nI gn)), (0, .ref (ad (0, 0, 0, 0))), (1, .ref (ad (35, 0, 0, 0))), (2, .ref (ad (37, 0, 0, 0))), (3, .ref (ad (39, 0, 0, 0))), (4, .ref (ad (43, 0, 0, 0))), (5, .ref (ad (44, 0, 0, 0))), (6, .ref (ad (41, 0, 0, 0))), (7, .ref (ad (42, 0, 0, 0))), (8, .ref (ad (40, 0, 0, 0))), (9, .ref (ad (45, 0, 0, 0))), (10, .int (nI d)), (11, .int (nI o))]) (fun _ => []) (fun f : Nat => f ≤ 4) (fun f => 4 - f) (fun f hi84 ih84 H locs ls h hl => ?_) 0 (Nat.zero_le _) (h.eq (congrArg (lay tc ad gm dz) rfl)) (lv_sub hl [0, 1, 2, 3, 4, 5, 6, 7, 8, 9, 10, 11, 12, 13, 14, 15, 16] rfl) rfl
  have h : Sx D A ad Ks (lay tc ad gm dz (LL Z)) s H locs := h
  have hl : lv_has ls 23 [(16, .int (nI f)), (15, .int (bI (anyB (shP Z d o k) f))), (14, .int (nI k)), (13, .int (nI gd)), (12, .int (nI gn)), (0, .ref (ad (0, 0, 0, 0))), (1, .ref (ad (35, 0, 0, 0))), (2, .ref (ad (37, 0, 0, 0))), (3, .ref (ad (39, 0, 0, 0))), (4, .ref (ad (43, 0, 0, 0))), (5, .ref (ad (44, 0, 0, 0))), (6, .ref (ad (41, 0, 0, 0))), (7, .ref (ad (42, 0, 0, 0))), (8, .ref (ad (40, 0, 0, 0))), (9, .ref (ad (45, 0, 0, 0))), (10, .int (nI d)), (11, .int (nI o))] := hl
  refine lv_iload hx hb dL_isMerged_84 (lv_at hl 0 rfl) ?_
  refine lv_iconst (v := nI 4) hx hb dL_isMerged_86 (by decide) ?_
  refine n_icmp_ge (tgt := 136) hx hb (by omega) (by omega) dL_isMerged_87 (by decide) (fun c_87 => ?_) (fun c_87 => ?_)
  · skip
    have him : f = 4 := by omega
    rw [him] at hl
    exact kk H locs ls h (lv_sub hl [1, 2, 3, 4, 5, 6, 7, 8, 9, 10, 11, 12, 13, 14, 15, 16] rfl)
  · skip
    refine lv_iload hx hb dL_isMerged_90 (lv_at hl 1 rfl) ?_
    refine b_if_ne (tgt := 123) hx hb dL_isMerged_92 (by decide) (fun c_92 => ?_) (fun c_92 => ?_)
    · skip
      have hq : anyB (shP Z d o k) (f + 1) = true := by rw [anyB, c_92, Bool.true_or]
      refine lv_iconst (v := nI 1) hx hb dL_isMerged_123 (by decide) ?_
      refine lv_goto (tgt := 128) hx hb dL_isMerged_124 (by decide) ?_
      rw [lb_t hq]
      refine lv_istore (lv' := [(15, .int (bI (anyB (shP Z d o k) (f + 1)))), (16, .int (nI f)), (14, .int (nI k)), (13, .int (nI gd)), (12, .int (nI gn)), (0, .ref (ad (0, 0, 0, 0))), (1, .ref (ad (35, 0, 0, 0))), (2, .ref (ad (37, 0, 0, 0))), (3, .ref (ad (39, 0, 0, 0))), (4, .ref (ad (43, 0, 0, 0))), (5, .ref (ad (44, 0, 0, 0))), (6, .ref (ad (41, 0, 0, 0))), (7, .ref (ad (42, 0, 0, 0))), (8, .ref (ad (40, 0, 0, 0))), (9, .ref (ad (45, 0, 0, 0))), (10, .int (nI d)), (11, .int (nI o))]) hx hb dL_isMerged_128 hl (by decide) rfl (fun ls hl => ?_)
      refine n_iinc (j := f) (n := 1) (lv' := [(16, .int (nI (f + 1))), (15, .int (bI (anyB (shP Z d o k) (f + 1)))), (14, .int (nI k)), (13, .int (nI gd)), (12, .int (nI gn)), (0, .ref (ad (0, 0, 0, 0))), (1, .ref (ad (35, 0, 0, 0))), (2, .ref (ad (37, 0, 0, 0))), (3, .ref (ad (39, 0, 0, 0))), (4, .ref (ad (43, 0, 0, 0))), (5, .ref (ad (44, 0, 0, 0))), (6, .ref (ad (41, 0, 0, 0))), (7, .ref (ad (42, 0, 0, 0))), (8, .ref (ad (40, 0, 0, 0))), (9, .ref (ad (45, 0, 0, 0))), (10, .int (nI d)), (11, .int (nI o))]) hx hb dL_isMerged_130 hl (k := 1) rfl (by decide) (by decide) rfl (fun ls hl => ?_)
      refine lv_goto (tgt := 84) hx hb dL_isMerged_133 (by decide) ?_
      exact ih84 (f + 1) (by omega) (by omega) H locs ls (h.eq (congrArg (lay tc ad gm dz) rfl)) (lv_sub hl [0, 1, 2, 3, 4, 5, 6, 7, 8, 9, 10, 11, 12, 13, 14, 15, 16] rfl)
    · skip
      refine lv_aload hx hb dL_isMerged_95 (lv_at hl 10 rfl) ?_
      refine lv_iload hx hb dL_isMerged_97 (lv_at hl 15 rfl) ?_
      refine lv_iload hx hb dL_isMerged_99 (lv_at hl 2 rfl) ?_
      refine lv_iload hx hb dL_isMerged_101 (lv_at hl 0 rfl) ?_
      refine x_doneI X h (x_runS X h (m_L_may Z hL d k (by omega) (by omega) f (by omega) _) F_L_may q766 q767 rfl (Nat.le_trans (by decide) hR1) (Nat.le_trans (by decide) hR2) ⟨hcR, hsR⟩ hl.1 (Nat.le_of_ble_eq_true rfl) dL_isMerged_103 rfl) (fun H locs h => ?_)
      refine b_if_eq (tgt := 127) hx hb dL_isMerged_106 (by decide) (fun c_106 => ?_) (fun c_106 => ?_)
      · skip
        have hq : anyB (shP Z d o k) (f + 1) = false := by rw [anyB, c_92, shP_n1 c_106]; rfl
        refine lv_iconst (v := nI 0) hx hb dL_isMerged_127 (by decide) ?_
        rw [lb_f hq]
        refine lv_istore (lv' := [(15, .int (bI (anyB (shP Z d o k) (f + 1)))), (16, .int (nI f)), (14, .int (nI k)), (13, .int (nI gd)), (12, .int (nI gn)), (0, .ref (ad (0, 0, 0, 0))), (1, .ref (ad (35, 0, 0, 0))), (2, .ref (ad (37, 0, 0, 0))), (3, .ref (ad (39, 0, 0, 0))), (4, .ref (ad (43, 0, 0, 0))), (5, .ref (ad (44, 0, 0, 0))), (6, .ref (ad (41, 0, 0, 0))), (7, .ref (ad (42, 0, 0, 0))), (8, .ref (ad (40, 0, 0, 0))), (9, .ref (ad (45, 0, 0, 0))), (10, .int (nI d)), (11, .int (nI o))]) hx hb dL_isMerged_128 hl (by decide) rfl (fun ls hl => ?_)
        refine n_iinc (j := f) (n := 1) (lv' := [(16, .int (nI (f + 1))), (15, .int (bI (anyB (shP Z d o k) (f + 1)))), (14, .int (nI k)), (13, .int (nI gd)), (12, .int (nI gn)), (0, .ref (ad (0, 0, 0, 0))), (1, .ref (ad (35, 0, 0, 0))), (2, .ref (ad (37, 0, 0, 0))), (3, .ref (ad (39, 0, 0, 0))), (4, .ref (ad (43, 0, 0, 0))), (5, .ref (ad (44, 0, 0, 0))), (6, .ref (ad (41, 0, 0, 0))), (7, .ref (ad (42, 0, 0, 0))), (8, .ref (ad (40, 0, 0, 0))), (9, .ref (ad (45, 0, 0, 0))), (10, .int (nI d)), (11, .int (nI o))]) hx hb dL_isMerged_130 hl (k := 1) rfl (by decide) (by decide) rfl (fun ls hl => ?_)
        refine lv_goto (tgt := 84) hx hb dL_isMerged_133 (by decide) ?_
        exact ih84 (f + 1) (by omega) (by omega) H locs ls (h.eq (congrArg (lay tc ad gm dz) rfl)) (lv_sub hl [0, 1, 2, 3, 4, 5, 6, 7, 8, 9, 10, 11, 12, 13, 14, 15, 16] rfl)
      · skip
        refine lv_aload hx hb dL_isMerged_109 (lv_at hl 10 rfl) ?_
        refine lv_iload hx hb dL_isMerged_111 (lv_at hl 16 rfl) ?_
        refine lv_iload hx hb dL_isMerged_113 (lv_at hl 2 rfl) ?_
        refine lv_iload hx hb dL_isMerged_115 (lv_at hl 0 rfl) ?_
        refine x_doneI X h (x_runS X h (m_L_may Z hL o k (by omega) (by omega) f (by omega) _) F_L_may q766 q767 rfl (Nat.le_trans (by decide) hR1) (Nat.le_trans (by decide) hR2) ⟨hcR, hsR⟩ hl.1 (Nat.le_of_ble_eq_true rfl) dL_isMerged_117 rfl) (fun H locs h => ?_)
        refine b_if_eq (tgt := 127) hx hb dL_isMerged_120 (by decide) (fun c_120 => ?_) (fun c_120 => ?_)
        · skip
          have hq : anyB (shP Z d o k) (f + 1) = false := by rw [anyB, c_92, shP_n2 c_120]; rfl
          refine lv_iconst (v := nI 0) hx hb dL_isMerged_127 (by decide) ?_
          rw [lb_f hq]
          refine lv_istore (lv' := [(15, .int (bI (anyB (shP Z d o k) (f + 1)))), (16, .int (nI f)), (14, .int (nI k)), (13, .int (nI gd)), (12, .int (nI gn)), (0, .ref (ad (0, 0, 0, 0))), (1, .ref (ad (35, 0, 0, 0))), (2, .ref (ad (37, 0, 0, 0))), (3, .ref (ad (39, 0, 0, 0))), (4, .ref (ad (43, 0, 0, 0))), (5, .ref (ad (44, 0, 0, 0))), (6, .ref (ad (41, 0, 0, 0))), (7, .ref (ad (42, 0, 0, 0))), (8, .ref (ad (40, 0, 0, 0))), (9, .ref (ad (45, 0, 0, 0))), (10, .int (nI d)), (11, .int (nI o))]) hx hb dL_isMerged_128 hl (by decide) rfl (fun ls hl => ?_)
          refine n_iinc (j := f) (n := 1) (lv' := [(16, .int (nI (f + 1))), (15, .int (bI (anyB (shP Z d o k) (f + 1)))), (14, .int (nI k)), (13, .int (nI gd)), (12, .int (nI gn)), (0, .ref (ad (0, 0, 0, 0))), (1, .ref (ad (35, 0, 0, 0))), (2, .ref (ad (37, 0, 0, 0))), (3, .ref (ad (39, 0, 0, 0))), (4, .ref (ad (43, 0, 0, 0))), (5, .ref (ad (44, 0, 0, 0))), (6, .ref (ad (41, 0, 0, 0))), (7, .ref (ad (42, 0, 0, 0))), (8, .ref (ad (40, 0, 0, 0))), (9, .ref (ad (45, 0, 0, 0))), (10, .int (nI d)), (11, .int (nI o))]) hx hb dL_isMerged_130 hl (k := 1) rfl (by decide) (by decide) rfl (fun ls hl => ?_)
          refine lv_goto (tgt := 84) hx hb dL_isMerged_133 (by decide) ?_
          exact ih84 (f + 1) (by omega) (by omega) H locs ls (h.eq (congrArg (lay tc ad gm dz) rfl)) (lv_sub hl [0, 1, 2, 3, 4, 5, 6, 7, 8, 9, 10, 11, 12, 13, 14, 15, 16] rfl)
        · skip
          have hq : anyB (shP Z d o k) (f + 1) = true := by rw [anyB, shP_of c_106 c_120, Bool.or_true]
          refine lv_iconst (v := nI 1) hx hb dL_isMerged_123 (by decide) ?_
          refine lv_goto (tgt := 128) hx hb dL_isMerged_124 (by decide) ?_
          rw [lb_t hq]
          refine lv_istore (lv' := [(15, .int (bI (anyB (shP Z d o k) (f + 1)))), (16, .int (nI f)), (14, .int (nI k)), (13, .int (nI gd)), (12, .int (nI gn)), (0, .ref (ad (0, 0, 0, 0))), (1, .ref (ad (35, 0, 0, 0))), (2, .ref (ad (37, 0, 0, 0))), (3, .ref (ad (39, 0, 0, 0))), (4, .ref (ad (43, 0, 0, 0))), (5, .ref (ad (44, 0, 0, 0))), (6, .ref (ad (41, 0, 0, 0))), (7, .ref (ad (42, 0, 0, 0))), (8, .ref (ad (40, 0, 0, 0))), (9, .ref (ad (45, 0, 0, 0))), (10, .int (nI d)), (11, .int (nI o))]) hx hb dL_isMerged_128 hl (by decide) rfl (fun ls hl => ?_)
          refine n_iinc (j := f) (n := 1) (lv' := [(16, .int (nI (f + 1))), (15, .int (bI (anyB (shP Z d o k) (f + 1)))), (14, .int (nI k)), (13, .int (nI gd)), (12, .int (nI gn)), (0, .ref (ad (0, 0, 0, 0))), (1, .ref (ad (35, 0, 0, 0))), (2, .ref (ad (37, 0, 0, 0))), (3, .ref (ad (39, 0, 0, 0))), (4, .ref (ad (43, 0, 0, 0))), (5, .ref (ad (44, 0, 0, 0))), (6, .ref (ad (41, 0, 0, 0))), (7, .ref (ad (42, 0, 0, 0))), (8, .ref (ad (40, 0, 0, 0))), (9, .ref (ad (45, 0, 0, 0))), (10, .int (nI d)), (11, .int (nI o))]) hx hb dL_isMerged_130 hl (k := 1) rfl (by decide) (by decide) rfl (fun ls hl => ?_)
          refine lv_goto (tgt := 84) hx hb dL_isMerged_133 (by decide) ?_
          exact ih84 (f + 1) (by omega) (by omega) H locs ls (h.eq (congrArg (lay tc ad gm dz) rfl)) (lv_sub hl [0, 1, 2, 3, 4, 5, 6, 7, 8, 9, 10, 11, 12, 13, 14, 15, 16] rfl)

set_option maxHeartbeats 4000000 in
set_option maxRecDepth 100000 in
theorem sg_n00 (X : Cx p s mth args meth c cL_isMerged yL_isMerged.cls 23 D tc dz A) (hR1 : 12 ≤ R.frames) (hR2 : 400 ≤ R.locals) (hcR : cells ≤ R.cells) (hsR : slots ≤ R.slots) (hL : LV gm Ks) (Z : Mem) (hW : LW gm Ks) (hZ : OKX Z) (n m t : Nat) (hN : NR Z n m t) (hn2 : n ≤ 2) (hm10 : m ≤ 10) (ht9 : t ≤ 2000) (d o k gn gd : Nat) (hd : d < 6) (ho : o < 6) (hk2 : k < 2) (hne : d ≠ o) (kb ob : Nat) (hkb : kb < 2) (hob : ob < 2) (h43 : LL Z (43, 0, 0, 0) (2 * d + k) = nI (0 + 2 * kb)) (o43 : LL Z (43, 0, 0, 0) (2 * o + k) = nI (0 + 2 * ob)) (h : Sx D A ad Ks (lay tc ad gm dz (LL Z)) s H locs) (hl : lv_has ls 23 [(15, .int (bI false)), (14, .int (nI k)), (13, .int (nI gd)), (12, .int (nI gn)), (0, .ref (ad (0, 0, 0, 0))), (1, .ref (ad (35, 0, 0, 0))), (2, .ref (ad (37, 0, 0, 0))), (3, .ref (ad (39, 0, 0, 0))), (4, .ref (ad (43, 0, 0, 0))), (5, .ref (ad (44, 0, 0, 0))), (6, .ref (ad (41, 0, 0, 0))), (7, .ref (ad (42, 0, 0, 0))), (8, .ref (ad (40, 0, 0, 0))), (9, .ref (ad (45, 0, 0, 0))), (10, .int (nI d)), (11, .int (nI o))])
    (kk : ∀ (H1 : Heap) (locs1 : List Loc) (ls1 : Array Slot), Sx D A ad Ks (lay tc ad gm dz (LL Z)) s H1 locs1 → lv_has ls1 23 [(15, .int (bI false)), (14, .int (nI k)), (13, .int (nI gd)), (12, .int (nI gn)), (0, .ref (ad (0, 0, 0, 0))), (1, .ref (ad (35, 0, 0, 0))), (2, .ref (ad (37, 0, 0, 0))), (3, .ref (ad (39, 0, 0, 0))), (4, .ref (ad (43, 0, 0, 0))), (5, .ref (ad (44, 0, 0, 0))), (6, .ref (ad (41, 0, 0, 0))), (7, .ref (ad (42, 0, 0, 0))), (8, .ref (ad (40, 0, 0, 0))), (9, .ref (ad (45, 0, 0, 0))), (10, .int (nI d)), (11, .int (nI o))] → W p l e R s mth args below meth c H1 locs1 cells slots Q (F0 mth 319 ls1 [])) : W p l e R s mth args below meth c H locs cells slots Q (F0 mth 136 ls []) := by
  obtain ⟨hx, hb, hmaxL, hown, hts⟩ := id X.1
  refine lv_aload hx hb dL_isMerged_136 (lv_at hl 8 rfl) ?_
  refine lv_iconst (v := nI 2) hx hb dL_isMerged_138 (by decide) ?_
  refine lv_iload hx hb dL_isMerged_139 (lv_at hl 14 rfl) ?_
  refine n_imul hx hb dL_isMerged_141 ?_
  refine lv_iload hx hb dL_isMerged_142 (lv_at hl 1 rfl) ?_
  refine n_iadd hx hb dL_isMerged_144 ?_
  refine y_ald X h (fun _ => rfl) (by decide) (hL (43, 0, 0, 0) ⟨by decide, rfl, rfl, rfl⟩) (by omega) (v := nI (0 + 2 * kb)) h43 dL_isMerged_145 ?_
  refine lv_iconst (v := nI 2) hx hb dL_isMerged_146 (by decide) ?_
  refine n_irem hx hb (by omega) (by omega) (by omega) dL_isMerged_147 ?_
  rw [show (0 + 2 * kb) % 2 = 0 from by omega]
  refine lv_istore (lv' := [(16, .int (nI 0)), (15, .int (bI false)), (14, .int (nI k)), (13, .int (nI gd)), (12, .int (nI gn)), (0, .ref (ad (0, 0, 0, 0))), (1, .ref (ad (35, 0, 0, 0))), (2, .ref (ad (37, 0, 0, 0))), (3, .ref (ad (39, 0, 0, 0))), (4, .ref (ad (43, 0, 0, 0))), (5, .ref (ad (44, 0, 0, 0))), (6, .ref (ad (41, 0, 0, 0))), (7, .ref (ad (42, 0, 0, 0))), (8, .ref (ad (40, 0, 0, 0))), (9, .ref (ad (45, 0, 0, 0))), (10, .int (nI d)), (11, .int (nI o))]) hx hb dL_isMerged_148 hl (by decide) rfl (fun ls hl => ?_)
  refine lv_aload hx hb dL_isMerged_150 (lv_at hl 9 rfl) ?_
  refine lv_iconst (v := nI 2) hx hb dL_isMerged_152 (by decide) ?_
  refine lv_iload hx hb dL_isMerged_153 (lv_at hl 16 rfl) ?_
  refine n_imul hx hb dL_isMerged_155 ?_
  refine lv_iload hx hb dL_isMerged_156 (lv_at hl 2 rfl) ?_
  refine n_iadd hx hb dL_isMerged_158 ?_
  refine y_ald X h (fun _ => rfl) (by decide) (hL (43, 0, 0, 0) ⟨by decide, rfl, rfl, rfl⟩) (by omega) (v := nI (0 + 2 * ob)) o43 dL_isMerged_159 ?_
  refine lv_iconst (v := nI 2) hx hb dL_isMerged_160 (by decide) ?_
  refine n_irem hx hb (by omega) (by omega) (by omega) dL_isMerged_161 ?_
  rw [show (0 + 2 * ob) % 2 = 0 from by omega]
  refine lv_istore (lv' := [(17, .int (nI 0)), (16, .int (nI 0)), (15, .int (bI false)), (14, .int (nI k)), (13, .int (nI gd)), (12, .int (nI gn)), (0, .ref (ad (0, 0, 0, 0))), (1, .ref (ad (35, 0, 0, 0))), (2, .ref (ad (37, 0, 0, 0))), (3, .ref (ad (39, 0, 0, 0))), (4, .ref (ad (43, 0, 0, 0))), (5, .ref (ad (44, 0, 0, 0))), (6, .ref (ad (41, 0, 0, 0))), (7, .ref (ad (42, 0, 0, 0))), (8, .ref (ad (40, 0, 0, 0))), (9, .ref (ad (45, 0, 0, 0))), (10, .int (nI d)), (11, .int (nI o))]) hx hb dL_isMerged_162 hl (by decide) rfl (fun ls hl => ?_)
  refine lv_iload hx hb dL_isMerged_164 (lv_at hl 2 rfl) ?_
  refine b_if_eq (tgt := 196) hx hb dL_isMerged_166 (by decide) (fun _ => ?_) (fun c => (Bool.noConfusion c))
  refine lv_iconst (v := nI 0) hx hb dL_isMerged_196 (by decide) ?_
  refine lv_istore (lv' := [(18, .int (nI 0)), (17, .int (nI 0)), (16, .int (nI 0)), (15, .int (bI false)), (14, .int (nI k)), (13, .int (nI gd)), (12, .int (nI gn)), (0, .ref (ad (0, 0, 0, 0))), (1, .ref (ad (35, 0, 0, 0))), (2, .ref (ad (37, 0, 0, 0))), (3, .ref (ad (39, 0, 0, 0))), (4, .ref (ad (43, 0, 0, 0))), (5, .ref (ad (44, 0, 0, 0))), (6, .ref (ad (41, 0, 0, 0))), (7, .ref (ad (42, 0, 0, 0))), (8, .ref (ad (40, 0, 0, 0))), (9, .ref (ad (45, 0, 0, 0))), (10, .int (nI d)), (11, .int (nI o))]) hx hb dL_isMerged_197 hl (by decide) rfl (fun ls hl => ?_)
  refine lv_iload hx hb dL_isMerged_199 (lv_at hl 3 rfl) ?_
  refine b_if_eq (tgt := 231) hx hb dL_isMerged_201 (by decide) (fun _ => ?_) (fun c => (Bool.noConfusion c))
  refine lv_iconst (v := nI 0) hx hb dL_isMerged_231 (by decide) ?_
  refine lv_istore (lv' := [(19, .int (nI 0)), (18, .int (nI 0)), (17, .int (nI 0)), (16, .int (nI 0)), (15, .int (bI false)), (14, .int (nI k)), (13, .int (nI gd)), (12, .int (nI gn)), (0, .ref (ad (0, 0, 0, 0))), (1, .ref (ad (35, 0, 0, 0))), (2, .ref (ad (37, 0, 0, 0))), (3, .ref (ad (39, 0, 0, 0))), (4, .ref (ad (43, 0, 0, 0))), (5, .ref (ad (44, 0, 0, 0))), (6, .ref (ad (41, 0, 0, 0))), (7, .ref (ad (42, 0, 0, 0))), (8, .ref (ad (40, 0, 0, 0))), (9, .ref (ad (45, 0, 0, 0))), (10, .int (nI d)), (11, .int (nI o))]) hx hb dL_isMerged_232 hl (by decide) rfl (fun ls hl => ?_)
  refine lv_iload hx hb dL_isMerged_234 (lv_at hl 1 rfl) ?_
  refine lv_if_ne (tgt := 244) hx hb dL_isMerged_236 (by decide) (fun c => absurd c (by decide)) (fun _ => ?_)
  refine lv_iload hx hb dL_isMerged_239 (lv_at hl 0 rfl) ?_
  refine lv_if_eq (tgt := 280) hx hb dL_isMerged_241 (by decide) (fun _ => ?_) (fun c => absurd c (by decide))
  refine lv_iload hx hb dL_isMerged_280 (lv_at hl 4 rfl) ?_
  refine b_if_eq (tgt := 319) hx hb dL_isMerged_282 (by decide) (fun _ => ?_) (fun c => (Bool.noConfusion c))
  exact kk H locs ls h (lv_sub hl [4, 5, 6, 7, 8, 9, 10, 11, 12, 13, 14, 15, 16, 17, 18, 19] rfl)

set_option maxHeartbeats 4000000 in
set_option maxRecDepth 100000 in
theorem sg_n01 (X : Cx p s mth args meth c cL_isMerged yL_isMerged.cls 23 D tc dz A) (hR1 : 12 ≤ R.frames) (hR2 : 400 ≤ R.locals) (hcR : cells ≤ R.cells) (hsR : slots ≤ R.slots) (hL : LV gm Ks) (Z : Mem) (hW : LW gm Ks) (hZ : OKX Z) (n m t : Nat) (hN : NR Z n m t) (hn2 : n ≤ 2) (hm10 : m ≤ 10) (ht9 : t ≤ 2000) (d o k gn gd : Nat) (hd : d < 6) (ho : o < 6) (hk2 : k < 2) (hne : d ≠ o) (kb ob : Nat) (hkb : kb < 2) (hob : ob < 2) (h43 : LL Z (43, 0, 0, 0) (2 * d + k) = nI (0 + 2 * kb)) (o43 : LL Z (43, 0, 0, 0) (2 * o + k) = nI (1 + 2 * ob)) (h : Sx D A ad Ks (lay tc ad gm dz (LL Z)) s H locs) (hl : lv_has ls 23 [(15, .int (bI false)), (14, .int (nI k)), (13, .int (nI gd)), (12, .int (nI gn)), (0, .ref (ad (0, 0, 0, 0))), (1, .ref (ad (35, 0, 0, 0))), (2, .ref (ad (37, 0, 0, 0))), (3, .ref (ad (39, 0, 0, 0))), (4, .ref (ad (43, 0, 0, 0))), (5, .ref (ad (44, 0, 0, 0))), (6, .ref (ad (41, 0, 0, 0))), (7, .ref (ad (42, 0, 0, 0))), (8, .ref (ad (40, 0, 0, 0))), (9, .ref (ad (45, 0, 0, 0))), (10, .int (nI d)), (11, .int (nI o))])
    (kk : ∀ (H1 : Heap) (locs1 : List Loc) (ls1 : Array Slot), Sx D A ad Ks (lay tc ad gm dz (LL Z)) s H1 locs1 → lv_has ls1 23 [(15, .int (bI false)), (14, .int (nI k)), (13, .int (nI gd)), (12, .int (nI gn)), (0, .ref (ad (0, 0, 0, 0))), (1, .ref (ad (35, 0, 0, 0))), (2, .ref (ad (37, 0, 0, 0))), (3, .ref (ad (39, 0, 0, 0))), (4, .ref (ad (43, 0, 0, 0))), (5, .ref (ad (44, 0, 0, 0))), (6, .ref (ad (41, 0, 0, 0))), (7, .ref (ad (42, 0, 0, 0))), (8, .ref (ad (40, 0, 0, 0))), (9, .ref (ad (45, 0, 0, 0))), (10, .int (nI d)), (11, .int (nI o))] → W p l e R s mth args below meth c H1 locs1 cells slots Q (F0 mth 319 ls1 [])) : W p l e R s mth args below meth c H locs cells slots Q (F0 mth 136 ls []) := by
  obtain ⟨hx, hb, hmaxL, hown, hts⟩ := id X.1
  refine lv_aload hx hb dL_isMerged_136 (lv_at hl 8 rfl) ?_
  refine lv_iconst (v := nI 2) hx hb dL_isMerged_138 (by decide) ?_
  refine lv_iload hx hb dL_isMerged_139 (lv_at hl 14 rfl) ?_
  refine n_imul hx hb dL_isMerged_141 ?_
  refine lv_iload hx hb dL_isMerged_142 (lv_at hl 1 rfl) ?_
  refine n_iadd hx hb dL_isMerged_144 ?_
  refine y_ald X h (fun _ => rfl) (by decide) (hL (43, 0, 0, 0) ⟨by decide, rfl, rfl, rfl⟩) (by omega) (v := nI (0 + 2 * kb)) h43 dL_isMerged_145 ?_
  refine lv_iconst (v := nI 2) hx hb dL_isMerged_146 (by decide) ?_
  refine n_irem hx hb (by omega) (by omega) (by omega) dL_isMerged_147 ?_
  rw [show (0 + 2 * kb) % 2 = 0 from by omega]
  refine lv_istore (lv' := [(16, .int (nI 0)), (15, .int (bI false)), (14, .int (nI k)), (13, .int (nI gd)), (12, .int (nI gn)), (0, .ref (ad (0, 0, 0, 0))), (1, .ref (ad (35, 0, 0, 0))), (2, .ref (ad (37, 0, 0, 0))), (3, .ref (ad (39, 0, 0, 0))), (4, .ref (ad (43, 0, 0, 0))), (5, .ref (ad (44, 0, 0, 0))), (6, .ref (ad (41, 0, 0, 0))), (7, .ref (ad (42, 0, 0, 0))), (8, .ref (ad (40, 0, 0, 0))), (9, .ref (ad (45, 0, 0, 0))), (10, .int (nI d)), (11, .int (nI o))]) hx hb dL_isMerged_148 hl (by decide) rfl (fun ls hl => ?_)
  refine lv_aload hx hb dL_isMerged_150 (lv_at hl 9 rfl) ?_
  refine lv_iconst (v := nI 2) hx hb dL_isMerged_152 (by decide) ?_
  refine lv_iload hx hb dL_isMerged_153 (lv_at hl 16 rfl) ?_
  refine n_imul hx hb dL_isMerged_155 ?_
  refine lv_iload hx hb dL_isMerged_156 (lv_at hl 2 rfl) ?_
  refine n_iadd hx hb dL_isMerged_158 ?_
  refine y_ald X h (fun _ => rfl) (by decide) (hL (43, 0, 0, 0) ⟨by decide, rfl, rfl, rfl⟩) (by omega) (v := nI (1 + 2 * ob)) o43 dL_isMerged_159 ?_
  refine lv_iconst (v := nI 2) hx hb dL_isMerged_160 (by decide) ?_
  refine n_irem hx hb (by omega) (by omega) (by omega) dL_isMerged_161 ?_
  rw [show (1 + 2 * ob) % 2 = 1 from by omega]
  refine lv_istore (lv' := [(17, .int (nI 1)), (16, .int (nI 0)), (15, .int (bI false)), (14, .int (nI k)), (13, .int (nI gd)), (12, .int (nI gn)), (0, .ref (ad (0, 0, 0, 0))), (1, .ref (ad (35, 0, 0, 0))), (2, .ref (ad (37, 0, 0, 0))), (3, .ref (ad (39, 0, 0, 0))), (4, .ref (ad (43, 0, 0, 0))), (5, .ref (ad (44, 0, 0, 0))), (6, .ref (ad (41, 0, 0, 0))), (7, .ref (ad (42, 0, 0, 0))), (8, .ref (ad (40, 0, 0, 0))), (9, .ref (ad (45, 0, 0, 0))), (10, .int (nI d)), (11, .int (nI o))]) hx hb dL_isMerged_162 hl (by decide) rfl (fun ls hl => ?_)
  refine lv_iload hx hb dL_isMerged_164 (lv_at hl 2 rfl) ?_
  refine b_if_eq (tgt := 196) hx hb dL_isMerged_166 (by decide) (fun _ => ?_) (fun c => (Bool.noConfusion c))
  refine lv_iconst (v := nI 0) hx hb dL_isMerged_196 (by decide) ?_
  refine lv_istore (lv' := [(18, .int (nI 0)), (17, .int (nI 1)), (16, .int (nI 0)), (15, .int (bI false)), (14, .int (nI k)), (13, .int (nI gd)), (12, .int (nI gn)), (0, .ref (ad (0, 0, 0, 0))), (1, .ref (ad (35, 0, 0, 0))), (2, .ref (ad (37, 0, 0, 0))), (3, .ref (ad (39, 0, 0, 0))), (4, .ref (ad (43, 0, 0, 0))), (5, .ref (ad (44, 0, 0, 0))), (6, .ref (ad (41, 0, 0, 0))), (7, .ref (ad (42, 0, 0, 0))), (8, .ref (ad (40, 0, 0, 0))), (9, .ref (ad (45, 0, 0, 0))), (10, .int (nI d)), (11, .int (nI o))]) hx hb dL_isMerged_197 hl (by decide) rfl (fun ls hl => ?_)
  refine lv_iload hx hb dL_isMerged_199 (lv_at hl 3 rfl) ?_
  refine b_if_eq (tgt := 231) hx hb dL_isMerged_201 (by decide) (fun _ => ?_) (fun c => (Bool.noConfusion c))
  refine lv_iconst (v := nI 0) hx hb dL_isMerged_231 (by decide) ?_
  refine lv_istore (lv' := [(19, .int (nI 0)), (18, .int (nI 0)), (17, .int (nI 1)), (16, .int (nI 0)), (15, .int (bI false)), (14, .int (nI k)), (13, .int (nI gd)), (12, .int (nI gn)), (0, .ref (ad (0, 0, 0, 0))), (1, .ref (ad (35, 0, 0, 0))), (2, .ref (ad (37, 0, 0, 0))), (3, .ref (ad (39, 0, 0, 0))), (4, .ref (ad (43, 0, 0, 0))), (5, .ref (ad (44, 0, 0, 0))), (6, .ref (ad (41, 0, 0, 0))), (7, .ref (ad (42, 0, 0, 0))), (8, .ref (ad (40, 0, 0, 0))), (9, .ref (ad (45, 0, 0, 0))), (10, .int (nI d)), (11, .int (nI o))]) hx hb dL_isMerged_232 hl (by decide) rfl (fun ls hl => ?_)
  refine lv_iload hx hb dL_isMerged_234 (lv_at hl 1 rfl) ?_
  refine lv_if_ne (tgt := 244) hx hb dL_isMerged_236 (by decide) (fun c => absurd c (by decide)) (fun _ => ?_)
  refine lv_iload hx hb dL_isMerged_239 (lv_at hl 0 rfl) ?_
  refine lv_if_eq (tgt := 280) hx hb dL_isMerged_241 (by decide) (fun _ => ?_) (fun c => absurd c (by decide))
  refine lv_iload hx hb dL_isMerged_280 (lv_at hl 4 rfl) ?_
  refine b_if_eq (tgt := 319) hx hb dL_isMerged_282 (by decide) (fun _ => ?_) (fun c => (Bool.noConfusion c))
  exact kk H locs ls h (lv_sub hl [4, 5, 6, 7, 8, 9, 10, 11, 12, 13, 14, 15, 16, 17, 18, 19] rfl)

set_option maxHeartbeats 4000000 in
set_option maxRecDepth 100000 in
theorem sg_n10 (X : Cx p s mth args meth c cL_isMerged yL_isMerged.cls 23 D tc dz A) (hR1 : 12 ≤ R.frames) (hR2 : 400 ≤ R.locals) (hcR : cells ≤ R.cells) (hsR : slots ≤ R.slots) (hL : LV gm Ks) (Z : Mem) (hW : LW gm Ks) (hZ : OKX Z) (n m t : Nat) (hN : NR Z n m t) (hn2 : n ≤ 2) (hm10 : m ≤ 10) (ht9 : t ≤ 2000) (d o k gn gd : Nat) (hd : d < 6) (ho : o < 6) (hk2 : k < 2) (hne : d ≠ o) (kb ob : Nat) (hkb : kb < 2) (hob : ob < 2) (h43 : LL Z (43, 0, 0, 0) (2 * d + k) = nI (1 + 2 * kb)) (o43 : LL Z (43, 0, 0, 0) (2 * o + k) = nI (0 + 2 * ob)) (h : Sx D A ad Ks (lay tc ad gm dz (LL Z)) s H locs) (hl : lv_has ls 23 [(15, .int (bI false)), (14, .int (nI k)), (13, .int (nI gd)), (12, .int (nI gn)), (0, .ref (ad (0, 0, 0, 0))), (1, .ref (ad (35, 0, 0, 0))), (2, .ref (ad (37, 0, 0, 0))), (3, .ref (ad (39, 0, 0, 0))), (4, .ref (ad (43, 0, 0, 0))), (5, .ref (ad (44, 0, 0, 0))), (6, .ref (ad (41, 0, 0, 0))), (7, .ref (ad (42, 0, 0, 0))), (8, .ref (ad (40, 0, 0, 0))), (9, .ref (ad (45, 0, 0, 0))), (10, .int (nI d)), (11, .int (nI o))])
    (kk : ∀ (H1 : Heap) (locs1 : List Loc) (ls1 : Array Slot), Sx D A ad Ks (lay tc ad gm dz (LL Z)) s H1 locs1 → lv_has ls1 23 [(15, .int (bI false)), (14, .int (nI k)), (13, .int (nI gd)), (12, .int (nI gn)), (0, .ref (ad (0, 0, 0, 0))), (1, .ref (ad (35, 0, 0, 0))), (2, .ref (ad (37, 0, 0, 0))), (3, .ref (ad (39, 0, 0, 0))), (4, .ref (ad (43, 0, 0, 0))), (5, .ref (ad (44, 0, 0, 0))), (6, .ref (ad (41, 0, 0, 0))), (7, .ref (ad (42, 0, 0, 0))), (8, .ref (ad (40, 0, 0, 0))), (9, .ref (ad (45, 0, 0, 0))), (10, .int (nI d)), (11, .int (nI o))] → W p l e R s mth args below meth c H1 locs1 cells slots Q (F0 mth 319 ls1 [])) : W p l e R s mth args below meth c H locs cells slots Q (F0 mth 136 ls []) := by
  obtain ⟨hx, hb, hmaxL, hown, hts⟩ := id X.1
  refine lv_aload hx hb dL_isMerged_136 (lv_at hl 8 rfl) ?_
  refine lv_iconst (v := nI 2) hx hb dL_isMerged_138 (by decide) ?_
  refine lv_iload hx hb dL_isMerged_139 (lv_at hl 14 rfl) ?_
  refine n_imul hx hb dL_isMerged_141 ?_
  refine lv_iload hx hb dL_isMerged_142 (lv_at hl 1 rfl) ?_
  refine n_iadd hx hb dL_isMerged_144 ?_
  refine y_ald X h (fun _ => rfl) (by decide) (hL (43, 0, 0, 0) ⟨by decide, rfl, rfl, rfl⟩) (by omega) (v := nI (1 + 2 * kb)) h43 dL_isMerged_145 ?_
  refine lv_iconst (v := nI 2) hx hb dL_isMerged_146 (by decide) ?_
  refine n_irem hx hb (by omega) (by omega) (by omega) dL_isMerged_147 ?_
  rw [show (1 + 2 * kb) % 2 = 1 from by omega]
  refine lv_istore (lv' := [(16, .int (nI 1)), (15, .int (bI false)), (14, .int (nI k)), (13, .int (nI gd)), (12, .int (nI gn)), (0, .ref (ad (0, 0, 0, 0))), (1, .ref (ad (35, 0, 0, 0))), (2, .ref (ad (37, 0, 0, 0))), (3, .ref (ad (39, 0, 0, 0))), (4, .ref (ad (43, 0, 0, 0))), (5, .ref (ad (44, 0, 0, 0))), (6, .ref (ad (41, 0, 0, 0))), (7, .ref (ad (42, 0, 0, 0))), (8, .ref (ad (40, 0, 0, 0))), (9, .ref (ad (45, 0, 0, 0))), (10, .int (nI d)), (11, .int (nI o))]) hx hb dL_isMerged_148 hl (by decide) rfl (fun ls hl => ?_)
  refine lv_aload hx hb dL_isMerged_150 (lv_at hl 9 rfl) ?_
  refine lv_iconst (v := nI 2) hx hb dL_isMerged_152 (by decide) ?_
  refine lv_iload hx hb dL_isMerged_153 (lv_at hl 16 rfl) ?_
  refine n_imul hx hb dL_isMerged_155 ?_
  refine lv_iload hx hb dL_isMerged_156 (lv_at hl 2 rfl) ?_
  refine n_iadd hx hb dL_isMerged_158 ?_
  refine y_ald X h (fun _ => rfl) (by decide) (hL (43, 0, 0, 0) ⟨by decide, rfl, rfl, rfl⟩) (by omega) (v := nI (0 + 2 * ob)) o43 dL_isMerged_159 ?_
  refine lv_iconst (v := nI 2) hx hb dL_isMerged_160 (by decide) ?_
  refine n_irem hx hb (by omega) (by omega) (by omega) dL_isMerged_161 ?_
  rw [show (0 + 2 * ob) % 2 = 0 from by omega]
  refine lv_istore (lv' := [(17, .int (nI 0)), (16, .int (nI 1)), (15, .int (bI false)), (14, .int (nI k)), (13, .int (nI gd)), (12, .int (nI gn)), (0, .ref (ad (0, 0, 0, 0))), (1, .ref (ad (35, 0, 0, 0))), (2, .ref (ad (37, 0, 0, 0))), (3, .ref (ad (39, 0, 0, 0))), (4, .ref (ad (43, 0, 0, 0))), (5, .ref (ad (44, 0, 0, 0))), (6, .ref (ad (41, 0, 0, 0))), (7, .ref (ad (42, 0, 0, 0))), (8, .ref (ad (40, 0, 0, 0))), (9, .ref (ad (45, 0, 0, 0))), (10, .int (nI d)), (11, .int (nI o))]) hx hb dL_isMerged_162 hl (by decide) rfl (fun ls hl => ?_)
  refine lv_iload hx hb dL_isMerged_164 (lv_at hl 2 rfl) ?_
  refine b_if_eq (tgt := 196) hx hb dL_isMerged_166 (by decide) (fun _ => ?_) (fun c => (Bool.noConfusion c))
  refine lv_iconst (v := nI 0) hx hb dL_isMerged_196 (by decide) ?_
  refine lv_istore (lv' := [(18, .int (nI 0)), (17, .int (nI 0)), (16, .int (nI 1)), (15, .int (bI false)), (14, .int (nI k)), (13, .int (nI gd)), (12, .int (nI gn)), (0, .ref (ad (0, 0, 0, 0))), (1, .ref (ad (35, 0, 0, 0))), (2, .ref (ad (37, 0, 0, 0))), (3, .ref (ad (39, 0, 0, 0))), (4, .ref (ad (43, 0, 0, 0))), (5, .ref (ad (44, 0, 0, 0))), (6, .ref (ad (41, 0, 0, 0))), (7, .ref (ad (42, 0, 0, 0))), (8, .ref (ad (40, 0, 0, 0))), (9, .ref (ad (45, 0, 0, 0))), (10, .int (nI d)), (11, .int (nI o))]) hx hb dL_isMerged_197 hl (by decide) rfl (fun ls hl => ?_)
  refine lv_iload hx hb dL_isMerged_199 (lv_at hl 3 rfl) ?_
  refine b_if_eq (tgt := 231) hx hb dL_isMerged_201 (by decide) (fun _ => ?_) (fun c => (Bool.noConfusion c))
  refine lv_iconst (v := nI 0) hx hb dL_isMerged_231 (by decide) ?_
  refine lv_istore (lv' := [(19, .int (nI 0)), (18, .int (nI 0)), (17, .int (nI 0)), (16, .int (nI 1)), (15, .int (bI false)), (14, .int (nI k)), (13, .int (nI gd)), (12, .int (nI gn)), (0, .ref (ad (0, 0, 0, 0))), (1, .ref (ad (35, 0, 0, 0))), (2, .ref (ad (37, 0, 0, 0))), (3, .ref (ad (39, 0, 0, 0))), (4, .ref (ad (43, 0, 0, 0))), (5, .ref (ad (44, 0, 0, 0))), (6, .ref (ad (41, 0, 0, 0))), (7, .ref (ad (42, 0, 0, 0))), (8, .ref (ad (40, 0, 0, 0))), (9, .ref (ad (45, 0, 0, 0))), (10, .int (nI d)), (11, .int (nI o))]) hx hb dL_isMerged_232 hl (by decide) rfl (fun ls hl => ?_)
  refine lv_iload hx hb dL_isMerged_234 (lv_at hl 1 rfl) ?_
  refine lv_if_ne (tgt := 244) hx hb dL_isMerged_236 (by decide) (fun c => absurd c (by decide)) (fun _ => ?_)
  refine lv_iload hx hb dL_isMerged_239 (lv_at hl 0 rfl) ?_
  refine lv_if_eq (tgt := 280) hx hb dL_isMerged_241 (by decide) (fun _ => ?_) (fun c => absurd c (by decide))
  refine lv_iload hx hb dL_isMerged_280 (lv_at hl 4 rfl) ?_
  refine b_if_eq (tgt := 319) hx hb dL_isMerged_282 (by decide) (fun _ => ?_) (fun c => (Bool.noConfusion c))
  exact kk H locs ls h (lv_sub hl [4, 5, 6, 7, 8, 9, 10, 11, 12, 13, 14, 15, 16, 17, 18, 19] rfl)

set_option maxHeartbeats 4000000 in
set_option maxRecDepth 100000 in
theorem sg_n11 (X : Cx p s mth args meth c cL_isMerged yL_isMerged.cls 23 D tc dz A) (hR1 : 12 ≤ R.frames) (hR2 : 400 ≤ R.locals) (hcR : cells ≤ R.cells) (hsR : slots ≤ R.slots) (hL : LV gm Ks) (Z : Mem) (hW : LW gm Ks) (hZ : OKX Z) (n m t : Nat) (hN : NR Z n m t) (hn2 : n ≤ 2) (hm10 : m ≤ 10) (ht9 : t ≤ 2000) (d o k gn gd : Nat) (hd : d < 6) (ho : o < 6) (hk2 : k < 2) (hne : d ≠ o) (kb ob : Nat) (hkb : kb < 2) (hob : ob < 2) (h43 : LL Z (43, 0, 0, 0) (2 * d + k) = nI (1 + 2 * kb)) (o43 : LL Z (43, 0, 0, 0) (2 * o + k) = nI (1 + 2 * ob)) (h : Sx D A ad Ks (lay tc ad gm dz (LL Z)) s H locs) (hl : lv_has ls 23 [(15, .int (bI false)), (14, .int (nI k)), (13, .int (nI gd)), (12, .int (nI gn)), (0, .ref (ad (0, 0, 0, 0))), (1, .ref (ad (35, 0, 0, 0))), (2, .ref (ad (37, 0, 0, 0))), (3, .ref (ad (39, 0, 0, 0))), (4, .ref (ad (43, 0, 0, 0))), (5, .ref (ad (44, 0, 0, 0))), (6, .ref (ad (41, 0, 0, 0))), (7, .ref (ad (42, 0, 0, 0))), (8, .ref (ad (40, 0, 0, 0))), (9, .ref (ad (45, 0, 0, 0))), (10, .int (nI d)), (11, .int (nI o))])
    (kk : ∀ (H1 : Heap) (locs1 : List Loc) (ls1 : Array Slot), Sx D A ad Ks (lay tc ad gm dz (LL Z)) s H1 locs1 → lv_has ls1 23 [(15, .int (bI false)), (14, .int (nI k)), (13, .int (nI gd)), (12, .int (nI gn)), (0, .ref (ad (0, 0, 0, 0))), (1, .ref (ad (35, 0, 0, 0))), (2, .ref (ad (37, 0, 0, 0))), (3, .ref (ad (39, 0, 0, 0))), (4, .ref (ad (43, 0, 0, 0))), (5, .ref (ad (44, 0, 0, 0))), (6, .ref (ad (41, 0, 0, 0))), (7, .ref (ad (42, 0, 0, 0))), (8, .ref (ad (40, 0, 0, 0))), (9, .ref (ad (45, 0, 0, 0))), (10, .int (nI d)), (11, .int (nI o))] → W p l e R s mth args below meth c H1 locs1 cells slots Q (F0 mth 319 ls1 [])) : W p l e R s mth args below meth c H locs cells slots Q (F0 mth 136 ls []) := by
  obtain ⟨hx, hb, hmaxL, hown, hts⟩ := id X.1
  refine lv_aload hx hb dL_isMerged_136 (lv_at hl 8 rfl) ?_
  refine lv_iconst (v := nI 2) hx hb dL_isMerged_138 (by decide) ?_
  refine lv_iload hx hb dL_isMerged_139 (lv_at hl 14 rfl) ?_
  refine n_imul hx hb dL_isMerged_141 ?_
  refine lv_iload hx hb dL_isMerged_142 (lv_at hl 1 rfl) ?_
  refine n_iadd hx hb dL_isMerged_144 ?_
  refine y_ald X h (fun _ => rfl) (by decide) (hL (43, 0, 0, 0) ⟨by decide, rfl, rfl, rfl⟩) (by omega) (v := nI (1 + 2 * kb)) h43 dL_isMerged_145 ?_
  refine lv_iconst (v := nI 2) hx hb dL_isMerged_146 (by decide) ?_
  refine n_irem hx hb (by omega) (by omega) (by omega) dL_isMerged_147 ?_
  rw [show (1 + 2 * kb) % 2 = 1 from by omega]
  refine lv_istore (lv' := [(16, .int (nI 1)), (15, .int (bI false)), (14, .int (nI k)), (13, .int (nI gd)), (12, .int (nI gn)), (0, .ref (ad (0, 0, 0, 0))), (1, .ref (ad (35, 0, 0, 0))), (2, .ref (ad (37, 0, 0, 0))), (3, .ref (ad (39, 0, 0, 0))), (4, .ref (ad (43, 0, 0, 0))), (5, .ref (ad (44, 0, 0, 0))), (6, .ref (ad (41, 0, 0, 0))), (7, .ref (ad (42, 0, 0, 0))), (8, .ref (ad (40, 0, 0, 0))), (9, .ref (ad (45, 0, 0, 0))), (10, .int (nI d)), (11, .int (nI o))]) hx hb dL_isMerged_148 hl (by decide) rfl (fun ls hl => ?_)
  refine lv_aload hx hb dL_isMerged_150 (lv_at hl 9 rfl) ?_
  refine lv_iconst (v := nI 2) hx hb dL_isMerged_152 (by decide) ?_
  refine lv_iload hx hb dL_isMerged_153 (lv_at hl 16 rfl) ?_
  refine n_imul hx hb dL_isMerged_155 ?_
  refine lv_iload hx hb dL_isMerged_156 (lv_at hl 2 rfl) ?_
  refine n_iadd hx hb dL_isMerged_158 ?_
  refine y_ald X h (fun _ => rfl) (by decide) (hL (43, 0, 0, 0) ⟨by decide, rfl, rfl, rfl⟩) (by omega) (v := nI (1 + 2 * ob)) o43 dL_isMerged_159 ?_
  refine lv_iconst (v := nI 2) hx hb dL_isMerged_160 (by decide) ?_
  refine n_irem hx hb (by omega) (by omega) (by omega) dL_isMerged_161 ?_
  rw [show (1 + 2 * ob) % 2 = 1 from by omega]
  refine lv_istore (lv' := [(17, .int (nI 1)), (16, .int (nI 1)), (15, .int (bI false)), (14, .int (nI k)), (13, .int (nI gd)), (12, .int (nI gn)), (0, .ref (ad (0, 0, 0, 0))), (1, .ref (ad (35, 0, 0, 0))), (2, .ref (ad (37, 0, 0, 0))), (3, .ref (ad (39, 0, 0, 0))), (4, .ref (ad (43, 0, 0, 0))), (5, .ref (ad (44, 0, 0, 0))), (6, .ref (ad (41, 0, 0, 0))), (7, .ref (ad (42, 0, 0, 0))), (8, .ref (ad (40, 0, 0, 0))), (9, .ref (ad (45, 0, 0, 0))), (10, .int (nI d)), (11, .int (nI o))]) hx hb dL_isMerged_162 hl (by decide) rfl (fun ls hl => ?_)
  refine lv_iload hx hb dL_isMerged_164 (lv_at hl 2 rfl) ?_
  refine b_if_eq (tgt := 196) hx hb dL_isMerged_166 (by decide) (fun _ => ?_) (fun c => (Bool.noConfusion c))
  refine lv_iconst (v := nI 0) hx hb dL_isMerged_196 (by decide) ?_
  refine lv_istore (lv' := [(18, .int (nI 0)), (17, .int (nI 1)), (16, .int (nI 1)), (15, .int (bI false)), (14, .int (nI k)), (13, .int (nI gd)), (12, .int (nI gn)), (0, .ref (ad (0, 0, 0, 0))), (1, .ref (ad (35, 0, 0, 0))), (2, .ref (ad (37, 0, 0, 0))), (3, .ref (ad (39, 0, 0, 0))), (4, .ref (ad (43, 0, 0, 0))), (5, .ref (ad (44, 0, 0, 0))), (6, .ref (ad (41, 0, 0, 0))), (7, .ref (ad (42, 0, 0, 0))), (8, .ref (ad (40, 0, 0, 0))), (9, .ref (ad (45, 0, 0, 0))), (10, .int (nI d)), (11, .int (nI o))]) hx hb dL_isMerged_197 hl (by decide) rfl (fun ls hl => ?_)
  refine lv_iload hx hb dL_isMerged_199 (lv_at hl 3 rfl) ?_
  refine b_if_eq (tgt := 231) hx hb dL_isMerged_201 (by decide) (fun _ => ?_) (fun c => (Bool.noConfusion c))
  refine lv_iconst (v := nI 0) hx hb dL_isMerged_231 (by decide) ?_
  refine lv_istore (lv' := [(19, .int (nI 0)), (18, .int (nI 0)), (17, .int (nI 1)), (16, .int (nI 1)), (15, .int (bI false)), (14, .int (nI k)), (13, .int (nI gd)), (12, .int (nI gn)), (0, .ref (ad (0, 0, 0, 0))), (1, .ref (ad (35, 0, 0, 0))), (2, .ref (ad (37, 0, 0, 0))), (3, .ref (ad (39, 0, 0, 0))), (4, .ref (ad (43, 0, 0, 0))), (5, .ref (ad (44, 0, 0, 0))), (6, .ref (ad (41, 0, 0, 0))), (7, .ref (ad (42, 0, 0, 0))), (8, .ref (ad (40, 0, 0, 0))), (9, .ref (ad (45, 0, 0, 0))), (10, .int (nI d)), (11, .int (nI o))]) hx hb dL_isMerged_232 hl (by decide) rfl (fun ls hl => ?_)
  refine lv_iload hx hb dL_isMerged_234 (lv_at hl 1 rfl) ?_
  refine lv_if_ne (tgt := 244) hx hb dL_isMerged_236 (by decide) (fun c => absurd c (by decide)) (fun _ => ?_)
  refine lv_iload hx hb dL_isMerged_239 (lv_at hl 0 rfl) ?_
  refine lv_if_eq (tgt := 280) hx hb dL_isMerged_241 (by decide) (fun _ => ?_) (fun c => absurd c (by decide))
  refine lv_iload hx hb dL_isMerged_280 (lv_at hl 4 rfl) ?_
  refine b_if_eq (tgt := 319) hx hb dL_isMerged_282 (by decide) (fun _ => ?_) (fun c => (Bool.noConfusion c))
  exact kk H locs ls h (lv_sub hl [4, 5, 6, 7, 8, 9, 10, 11, 12, 13, 14, 15, 16, 17, 18, 19] rfl)

set_option maxHeartbeats 4000000 in
set_option maxRecDepth 100000 in
theorem sg_y00 (X : Cx p s mth args meth c cL_isMerged yL_isMerged.cls 23 D tc dz A) (hR1 : 12 ≤ R.frames) (hR2 : 400 ≤ R.locals) (hcR : cells ≤ R.cells) (hsR : slots ≤ R.slots) (hL : LV gm Ks) (Z : Mem) (hW : LW gm Ks) (hZ : OKX Z) (n m t : Nat) (hN : NR Z n m t) (hn2 : n ≤ 2) (hm10 : m ≤ 10) (ht9 : t ≤ 2000) (d o k gn gd : Nat) (hd : d < 6) (ho : o < 6) (hk2 : k < 2) (hne : d ≠ o) (kb ob : Nat) (hkb : kb < 2) (hob : ob < 2) (h43 : LL Z (43, 0, 0, 0) (2 * d + k) = nI (0 + 2 * kb)) (o43 : LL Z (43, 0, 0, 0) (2 * o + k) = nI (0 + 2 * ob)) (h : Sx D A ad Ks (lay tc ad gm dz (LL Z)) s H locs) (hl : lv_has ls 23 [(15, .int (bI true)), (14, .int (nI k)), (13, .int (nI gd)), (12, .int (nI gn)), (0, .ref (ad (0, 0, 0, 0))), (1, .ref (ad (35, 0, 0, 0))), (2, .ref (ad (37, 0, 0, 0))), (3, .ref (ad (39, 0, 0, 0))), (4, .ref (ad (43, 0, 0, 0))), (5, .ref (ad (44, 0, 0, 0))), (6, .ref (ad (41, 0, 0, 0))), (7, .ref (ad (42, 0, 0, 0))), (8, .ref (ad (40, 0, 0, 0))), (9, .ref (ad (45, 0, 0, 0))), (10, .int (nI d)), (11, .int (nI o))])
    (kk : ∀ (H1 : Heap) (locs1 : List Loc) (ls1 : Array Slot), Sx D A ad Ks (lay tc ad gm dz (LL Z)) s H1 locs1 → lv_has ls1 23 [(15, .int (bI true)), (14, .int (nI k)), (13, .int (nI gd)), (12, .int (nI gn)), (0, .ref (ad (0, 0, 0, 0))), (1, .ref (ad (35, 0, 0, 0))), (2, .ref (ad (37, 0, 0, 0))), (3, .ref (ad (39, 0, 0, 0))), (4, .ref (ad (43, 0, 0, 0))), (5, .ref (ad (44, 0, 0, 0))), (6, .ref (ad (41, 0, 0, 0))), (7, .ref (ad (42, 0, 0, 0))), (8, .ref (ad (40, 0, 0, 0))), (9, .ref (ad (45, 0, 0, 0))), (10, .int (nI d)), (11, .int (nI o))] → W p l e R s mth args below meth c H1 locs1 cells slots Q (F0 mth 319 ls1 [])) : W p l e R s mth args below meth c H locs cells slots Q (F0 mth 136 ls []) := by
  obtain ⟨hx, hb, hmaxL, hown, hts⟩ := id X.1
  refine lv_aload hx hb dL_isMerged_136 (lv_at hl 8 rfl) ?_
  refine lv_iconst (v := nI 2) hx hb dL_isMerged_138 (by decide) ?_
  refine lv_iload hx hb dL_isMerged_139 (lv_at hl 14 rfl) ?_
  refine n_imul hx hb dL_isMerged_141 ?_
  refine lv_iload hx hb dL_isMerged_142 (lv_at hl 1 rfl) ?_
  refine n_iadd hx hb dL_isMerged_144 ?_
  refine y_ald X h (fun _ => rfl) (by decide) (hL (43, 0, 0, 0) ⟨by decide, rfl, rfl, rfl⟩) (by omega) (v := nI (0 + 2 * kb)) h43 dL_isMerged_145 ?_
  refine lv_iconst (v := nI 2) hx hb dL_isMerged_146 (by decide) ?_
  refine n_irem hx hb (by omega) (by omega) (by omega) dL_isMerged_147 ?_
  rw [show (0 + 2 * kb) % 2 = 0 from by omega]
  refine lv_istore (lv' := [(16, .int (nI 0)), (15, .int (bI true)), (14, .int (nI k)), (13, .int (nI gd)), (12, .int (nI gn)), (0, .ref (ad (0, 0, 0, 0))), (1, .ref (ad (35, 0, 0, 0))), (2, .ref (ad (37, 0, 0, 0))), (3, .ref (ad (39, 0, 0, 0))), (4, .ref (ad (43, 0, 0, 0))), (5, .ref (ad (44, 0, 0, 0))), (6, .ref (ad (41, 0, 0, 0))), (7, .ref (ad (42, 0, 0, 0))), (8, .ref (ad (40, 0, 0, 0))), (9, .ref (ad (45, 0, 0, 0))), (10, .int (nI d)), (11, .int (nI o))]) hx hb dL_isMerged_148 hl (by decide) rfl (fun ls hl => ?_)
  refine lv_aload hx hb dL_isMerged_150 (lv_at hl 9 rfl) ?_
  refine lv_iconst (v := nI 2) hx hb dL_isMerged_152 (by decide) ?_
  refine lv_iload hx hb dL_isMerged_153 (lv_at hl 16 rfl) ?_
  refine n_imul hx hb dL_isMerged_155 ?_
  refine lv_iload hx hb dL_isMerged_156 (lv_at hl 2 rfl) ?_
  refine n_iadd hx hb dL_isMerged_158 ?_
  refine y_ald X h (fun _ => rfl) (by decide) (hL (43, 0, 0, 0) ⟨by decide, rfl, rfl, rfl⟩) (by omega) (v := nI (0 + 2 * ob)) o43 dL_isMerged_159 ?_
  refine lv_iconst (v := nI 2) hx hb dL_isMerged_160 (by decide) ?_
  refine n_irem hx hb (by omega) (by omega) (by omega) dL_isMerged_161 ?_
  rw [show (0 + 2 * ob) % 2 = 0 from by omega]
  refine lv_istore (lv' := [(17, .int (nI 0)), (16, .int (nI 0)), (15, .int (bI true)), (14, .int (nI k)), (13, .int (nI gd)), (12, .int (nI gn)), (0, .ref (ad (0, 0, 0, 0))), (1, .ref (ad (35, 0, 0, 0))), (2, .ref (ad (37, 0, 0, 0))), (3, .ref (ad (39, 0, 0, 0))), (4, .ref (ad (43, 0, 0, 0))), (5, .ref (ad (44, 0, 0, 0))), (6, .ref (ad (41, 0, 0, 0))), (7, .ref (ad (42, 0, 0, 0))), (8, .ref (ad (40, 0, 0, 0))), (9, .ref (ad (45, 0, 0, 0))), (10, .int (nI d)), (11, .int (nI o))]) hx hb dL_isMerged_162 hl (by decide) rfl (fun ls hl => ?_)
  refine lv_iload hx hb dL_isMerged_164 (lv_at hl 2 rfl) ?_
  refine b_if_eq (tgt := 196) hx hb dL_isMerged_166 (by decide) (fun c => (Bool.noConfusion c)) (fun _ => ?_)
  refine lv_iload hx hb dL_isMerged_169 (lv_at hl 1 rfl) ?_
  refine lv_iload hx hb dL_isMerged_171 (lv_at hl 0 rfl) ?_
  refine lv_icmp_le (tgt := 196) hx hb dL_isMerged_173 (by decide) (fun _ => ?_) (fun c => absurd c (by decide))
  refine lv_iconst (v := nI 0) hx hb dL_isMerged_196 (by decide) ?_
  refine lv_istore (lv' := [(18, .int (nI 0)), (17, .int (nI 0)), (16, .int (nI 0)), (15, .int (bI true)), (14, .int (nI k)), (13, .int (nI gd)), (12, .int (nI gn)), (0, .ref (ad (0, 0, 0, 0))), (1, .ref (ad (35, 0, 0, 0))), (2, .ref (ad (37, 0, 0, 0))), (3, .ref (ad (39, 0, 0, 0))), (4, .ref (ad (43, 0, 0, 0))), (5, .ref (ad (44, 0, 0, 0))), (6, .ref (ad (41, 0, 0, 0))), (7, .ref (ad (42, 0, 0, 0))), (8, .ref (ad (40, 0, 0, 0))), (9, .ref (ad (45, 0, 0, 0))), (10, .int (nI d)), (11, .int (nI o))]) hx hb dL_isMerged_197 hl (by decide) rfl (fun ls hl => ?_)
  refine lv_iload hx hb dL_isMerged_199 (lv_at hl 3 rfl) ?_
  refine b_if_eq (tgt := 231) hx hb dL_isMerged_201 (by decide) (fun c => (Bool.noConfusion c)) (fun _ => ?_)
  refine lv_iload hx hb dL_isMerged_204 (lv_at hl 1 rfl) ?_
  refine lv_iload hx hb dL_isMerged_206 (lv_at hl 2 rfl) ?_
  refine lv_icmp_le (tgt := 231) hx hb dL_isMerged_208 (by decide) (fun _ => ?_) (fun c => absurd c (by decide))
  refine lv_iconst (v := nI 0) hx hb dL_isMerged_231 (by decide) ?_
  refine lv_istore (lv' := [(19, .int (nI 0)), (18, .int (nI 0)), (17, .int (nI 0)), (16, .int (nI 0)), (15, .int (bI true)), (14, .int (nI k)), (13, .int (nI gd)), (12, .int (nI gn)), (0, .ref (ad (0, 0, 0, 0))), (1, .ref (ad (35, 0, 0, 0))), (2, .ref (ad (37, 0, 0, 0))), (3, .ref (ad (39, 0, 0, 0))), (4, .ref (ad (43, 0, 0, 0))), (5, .ref (ad (44, 0, 0, 0))), (6, .ref (ad (41, 0, 0, 0))), (7, .ref (ad (42, 0, 0, 0))), (8, .ref (ad (40, 0, 0, 0))), (9, .ref (ad (45, 0, 0, 0))), (10, .int (nI d)), (11, .int (nI o))]) hx hb dL_isMerged_232 hl (by decide) rfl (fun ls hl => ?_)
  refine lv_iload hx hb dL_isMerged_234 (lv_at hl 1 rfl) ?_
  refine lv_if_ne (tgt := 244) hx hb dL_isMerged_236 (by decide) (fun c => absurd c (by decide)) (fun _ => ?_)
  refine lv_iload hx hb dL_isMerged_239 (lv_at hl 0 rfl) ?_
  refine lv_if_eq (tgt := 280) hx hb dL_isMerged_241 (by decide) (fun _ => ?_) (fun c => absurd c (by decide))
  refine lv_iload hx hb dL_isMerged_280 (lv_at hl 4 rfl) ?_
  refine b_if_eq (tgt := 319) hx hb dL_isMerged_282 (by decide) (fun c => (Bool.noConfusion c)) (fun _ => ?_)
  refine lv_iload hx hb dL_isMerged_285 (lv_at hl 3 rfl) ?_
  refine lv_iload hx hb dL_isMerged_287 (lv_at hl 2 rfl) ?_
  refine n_iadd hx hb dL_isMerged_289 ?_
  rw [show nI (0 + 0) = nI 0 from rfl]
  refine lv_if_le (tgt := 319) hx hb dL_isMerged_290 (by decide) (fun _ => ?_) (fun c => absurd c (by decide))
  exact kk H locs ls h (lv_sub hl [4, 5, 6, 7, 8, 9, 10, 11, 12, 13, 14, 15, 16, 17, 18, 19] rfl)

set_option maxHeartbeats 4000000 in
set_option maxRecDepth 100000 in
theorem sg_y01o (X : Cx p s mth args meth c cL_isMerged yL_isMerged.cls 23 D tc dz A) (hR1 : 12 ≤ R.frames) (hR2 : 400 ≤ R.locals) (hcR : cells ≤ R.cells) (hsR : slots ≤ R.slots) (hL : LV gm Ks) (Z : Mem) (hW : LW gm Ks) (hZ : OKX Z) (n m t : Nat) (hN : NR Z n m t) (hn2 : n ≤ 2) (hm10 : m ≤ 10) (ht9 : t ≤ 2000) (d o k gn gd : Nat) (hd : d < 6) (ho : o < 6) (hk2 : k < 2) (hne : d ≠ o) (kb ob : Nat) (hkb : kb < 2) (hob : ob < 2) (h43 : LL Z (43, 0, 0, 0) (2 * d + k) = nI (0 + 2 * kb)) (o43 : LL Z (43, 0, 0, 0) (2 * o + k) = nI (1 + 2 * ob)) (hold : oldR Z d o k = true) (h : Sx D A ad Ks (lay tc ad gm dz (LL Z)) s H locs) (hl : lv_has ls 23 [(15, .int (bI true)), (14, .int (nI k)), (13, .int (nI gd)), (12, .int (nI gn)), (0, .ref (ad (0, 0, 0, 0))), (1, .ref (ad (35, 0, 0, 0))), (2, .ref (ad (37, 0, 0, 0))), (3, .ref (ad (39, 0, 0, 0))), (4, .ref (ad (43, 0, 0, 0))), (5, .ref (ad (44, 0, 0, 0))), (6, .ref (ad (41, 0, 0, 0))), (7, .ref (ad (42, 0, 0, 0))), (8, .ref (ad (40, 0, 0, 0))), (9, .ref (ad (45, 0, 0, 0))), (10, .int (nI d)), (11, .int (nI o))])
    (kk : ∀ (H1 : Heap) (locs1 : List Loc) (ls1 : Array Slot), Sx D A ad Ks (lay tc ad gm dz (LL (mforM Z o k m))) s H1 locs1 → lv_has ls1 23 [(15, .int (bI true)), (14, .int (nI k)), (13, .int (nI gd)), (12, .int (nI (gn + 1))), (0, .ref (ad (0, 0, 0, 0))), (1, .ref (ad (35, 0, 0, 0))), (2, .ref (ad (37, 0, 0, 0))), (3, .ref (ad (39, 0, 0, 0))), (4, .ref (ad (43, 0, 0, 0))), (5, .ref (ad (44, 0, 0, 0))), (6, .ref (ad (41, 0, 0, 0))), (7, .ref (ad (42, 0, 0, 0))), (8, .ref (ad (40, 0, 0, 0))), (9, .ref (ad (45, 0, 0, 0))), (10, .int (nI d)), (11, .int (nI o))] → W p l e R s mth args below meth c H1 locs1 cells slots Q (F0 mth 319 ls1 [])) : W p l e R s mth args below meth c H locs cells slots Q (F0 mth 136 ls []) := by
  obtain ⟨hx, hb, hmaxL, hown, hts⟩ := id X.1
  refine lv_aload hx hb dL_isMerged_136 (lv_at hl 8 rfl) ?_
  refine lv_iconst (v := nI 2) hx hb dL_isMerged_138 (by decide) ?_
  refine lv_iload hx hb dL_isMerged_139 (lv_at hl 14 rfl) ?_
  refine n_imul hx hb dL_isMerged_141 ?_
  refine lv_iload hx hb dL_isMerged_142 (lv_at hl 1 rfl) ?_
  refine n_iadd hx hb dL_isMerged_144 ?_
  refine y_ald X h (fun _ => rfl) (by decide) (hL (43, 0, 0, 0) ⟨by decide, rfl, rfl, rfl⟩) (by omega) (v := nI (0 + 2 * kb)) h43 dL_isMerged_145 ?_
  refine lv_iconst (v := nI 2) hx hb dL_isMerged_146 (by decide) ?_
  refine n_irem hx hb (by omega) (by omega) (by omega) dL_isMerged_147 ?_
  rw [show (0 + 2 * kb) % 2 = 0 from by omega]
  refine lv_istore (lv' := [(16, .int (nI 0)), (15, .int (bI true)), (14, .int (nI k)), (13, .int (nI gd)), (12, .int (nI gn)), (0, .ref (ad (0, 0, 0, 0))), (1, .ref (ad (35, 0, 0, 0))), (2, .ref (ad (37, 0, 0, 0))), (3, .ref (ad (39, 0, 0, 0))), (4, .ref (ad (43, 0, 0, 0))), (5, .ref (ad (44, 0, 0, 0))), (6, .ref (ad (41, 0, 0, 0))), (7, .ref (ad (42, 0, 0, 0))), (8, .ref (ad (40, 0, 0, 0))), (9, .ref (ad (45, 0, 0, 0))), (10, .int (nI d)), (11, .int (nI o))]) hx hb dL_isMerged_148 hl (by decide) rfl (fun ls hl => ?_)
  refine lv_aload hx hb dL_isMerged_150 (lv_at hl 9 rfl) ?_
  refine lv_iconst (v := nI 2) hx hb dL_isMerged_152 (by decide) ?_
  refine lv_iload hx hb dL_isMerged_153 (lv_at hl 16 rfl) ?_
  refine n_imul hx hb dL_isMerged_155 ?_
  refine lv_iload hx hb dL_isMerged_156 (lv_at hl 2 rfl) ?_
  refine n_iadd hx hb dL_isMerged_158 ?_
  refine y_ald X h (fun _ => rfl) (by decide) (hL (43, 0, 0, 0) ⟨by decide, rfl, rfl, rfl⟩) (by omega) (v := nI (1 + 2 * ob)) o43 dL_isMerged_159 ?_
  refine lv_iconst (v := nI 2) hx hb dL_isMerged_160 (by decide) ?_
  refine n_irem hx hb (by omega) (by omega) (by omega) dL_isMerged_161 ?_
  rw [show (1 + 2 * ob) % 2 = 1 from by omega]
  refine lv_istore (lv' := [(17, .int (nI 1)), (16, .int (nI 0)), (15, .int (bI true)), (14, .int (nI k)), (13, .int (nI gd)), (12, .int (nI gn)), (0, .ref (ad (0, 0, 0, 0))), (1, .ref (ad (35, 0, 0, 0))), (2, .ref (ad (37, 0, 0, 0))), (3, .ref (ad (39, 0, 0, 0))), (4, .ref (ad (43, 0, 0, 0))), (5, .ref (ad (44, 0, 0, 0))), (6, .ref (ad (41, 0, 0, 0))), (7, .ref (ad (42, 0, 0, 0))), (8, .ref (ad (40, 0, 0, 0))), (9, .ref (ad (45, 0, 0, 0))), (10, .int (nI d)), (11, .int (nI o))]) hx hb dL_isMerged_162 hl (by decide) rfl (fun ls hl => ?_)
  refine lv_iload hx hb dL_isMerged_164 (lv_at hl 2 rfl) ?_
  refine b_if_eq (tgt := 196) hx hb dL_isMerged_166 (by decide) (fun c => (Bool.noConfusion c)) (fun _ => ?_)
  refine lv_iload hx hb dL_isMerged_169 (lv_at hl 1 rfl) ?_
  refine lv_iload hx hb dL_isMerged_171 (lv_at hl 0 rfl) ?_
  refine lv_icmp_le (tgt := 196) hx hb dL_isMerged_173 (by decide) (fun _ => ?_) (fun c => absurd c (by decide))
  refine lv_iconst (v := nI 0) hx hb dL_isMerged_196 (by decide) ?_
  refine lv_istore (lv' := [(18, .int (nI 0)), (17, .int (nI 1)), (16, .int (nI 0)), (15, .int (bI true)), (14, .int (nI k)), (13, .int (nI gd)), (12, .int (nI gn)), (0, .ref (ad (0, 0, 0, 0))), (1, .ref (ad (35, 0, 0, 0))), (2, .ref (ad (37, 0, 0, 0))), (3, .ref (ad (39, 0, 0, 0))), (4, .ref (ad (43, 0, 0, 0))), (5, .ref (ad (44, 0, 0, 0))), (6, .ref (ad (41, 0, 0, 0))), (7, .ref (ad (42, 0, 0, 0))), (8, .ref (ad (40, 0, 0, 0))), (9, .ref (ad (45, 0, 0, 0))), (10, .int (nI d)), (11, .int (nI o))]) hx hb dL_isMerged_197 hl (by decide) rfl (fun ls hl => ?_)
  refine lv_iload hx hb dL_isMerged_199 (lv_at hl 3 rfl) ?_
  refine b_if_eq (tgt := 231) hx hb dL_isMerged_201 (by decide) (fun c => (Bool.noConfusion c)) (fun _ => ?_)
  refine lv_iload hx hb dL_isMerged_204 (lv_at hl 1 rfl) ?_
  refine lv_iload hx hb dL_isMerged_206 (lv_at hl 2 rfl) ?_
  refine lv_icmp_le (tgt := 231) hx hb dL_isMerged_208 (by decide) (fun c => absurd c (by decide)) (fun _ => ?_)
  refine lv_aload_n hx hb dL_isMerged_211 rfl (lv_at hl 8 rfl) ?_
  refine lv_aload_n hx hb dL_isMerged_212 rfl (lv_at hl 10 rfl) ?_
  refine lv_aload hx hb dL_isMerged_213 (lv_at hl 11 rfl) ?_
  refine lv_iload hx hb dL_isMerged_215 (lv_at hl 17 rfl) ?_
  refine lv_iload hx hb dL_isMerged_217 (lv_at hl 18 rfl) ?_
  refine lv_iload hx hb dL_isMerged_219 (lv_at hl 4 rfl) ?_
  refine x_doneI X h (x_runS X h (m_L_isOld Z hL hZ.1 hZ.k01 d o k (by omega) (by omega) (by omega) _) F_L_isOld q778 q779 rfl (Nat.le_trans (by decide) hR1) (Nat.le_trans (by decide) hR2) ⟨hcR, hsR⟩ hl.1 (Nat.le_of_ble_eq_true rfl) dL_isMerged_221 rfl) (fun H locs h => ?_)
  refine b_if_eq (tgt := 231) hx hb dL_isMerged_224 (by decide) (fun c => by rw [hold] at c; cases c) (fun _ => ?_)
  refine lv_iconst (v := nI 1) hx hb dL_isMerged_227 (by decide) ?_
  refine lv_goto (tgt := 232) hx hb dL_isMerged_228 (by decide) ?_
  refine lv_istore (lv' := [(19, .int (nI 1)), (18, .int (nI 0)), (17, .int (nI 1)), (16, .int (nI 0)), (15, .int (bI true)), (14, .int (nI k)), (13, .int (nI gd)), (12, .int (nI gn)), (0, .ref (ad (0, 0, 0, 0))), (1, .ref (ad (35, 0, 0, 0))), (2, .ref (ad (37, 0, 0, 0))), (3, .ref (ad (39, 0, 0, 0))), (4, .ref (ad (43, 0, 0, 0))), (5, .ref (ad (44, 0, 0, 0))), (6, .ref (ad (41, 0, 0, 0))), (7, .ref (ad (42, 0, 0, 0))), (8, .ref (ad (40, 0, 0, 0))), (9, .ref (ad (45, 0, 0, 0))), (10, .int (nI d)), (11, .int (nI o))]) hx hb dL_isMerged_232 hl (by decide) rfl (fun ls hl => ?_)
  refine lv_iload hx hb dL_isMerged_234 (lv_at hl 1 rfl) ?_
  refine lv_if_ne (tgt := 244) hx hb dL_isMerged_236 (by decide) (fun c => absurd c (by decide)) (fun _ => ?_)
  refine lv_iload hx hb dL_isMerged_239 (lv_at hl 0 rfl) ?_
  refine lv_if_eq (tgt := 280) hx hb dL_isMerged_241 (by decide) (fun c => absurd c (by decide)) (fun _ => ?_)
  refine lv_aload_n hx hb dL_isMerged_244 rfl (lv_at hl 9 rfl) ?_
  refine lv_aload_n hx hb dL_isMerged_245 rfl (lv_at hl 10 rfl) ?_
  refine lv_aload_n hx hb dL_isMerged_246 rfl (lv_at hl 11 rfl) ?_
  refine lv_aload hx hb dL_isMerged_247 (lv_at hl 12 rfl) ?_
  refine lv_aload hx hb dL_isMerged_249 (lv_at hl 14 rfl) ?_
  refine lv_aload hx hb dL_isMerged_251 (lv_at hl 15 rfl) ?_
  refine lv_aload hx hb dL_isMerged_253 (lv_at hl 16 rfl) ?_
  refine lv_aload hx hb dL_isMerged_255 (lv_at hl 17 rfl) ?_
  refine lv_iload hx hb dL_isMerged_257 (lv_at hl 1 rfl) ?_
  refine lv_if_eq (tgt := 267) hx hb dL_isMerged_259 (by decide) (fun _ => ?_) (fun c => absurd c (by decide))
  refine lv_iload hx hb dL_isMerged_267 (lv_at hl 19 rfl) ?_
  refine lv_iload hx hb dL_isMerged_269 (lv_at hl 5 rfl) ?_
  refine x_doneV X h (x_runS X h (m_L_forgets Z hL hW hZ.1 hZ.tr n m t hN hn2 hm10 ht9 o k (by omega) (by omega) _) F_L_forgets q781 q782 rfl (Nat.le_trans (by decide) hR1) (Nat.le_trans (by decide) hR2) ⟨hcR, hsR⟩ hl.1 (Nat.le_of_ble_eq_true rfl) dL_isMerged_271 rfl) (fun H locs h => ?_)
  refine n_iinc (j := gn) (n := 1) (lv' := [(12, .int (nI (gn + 1))), (19, .int (nI 1)), (18, .int (nI 0)), (17, .int (nI 1)), (16, .int (nI 0)), (15, .int (bI true)), (14, .int (nI k)), (13, .int (nI gd)), (0, .ref (ad (0, 0, 0, 0))), (1, .ref (ad (35, 0, 0, 0))), (2, .ref (ad (37, 0, 0, 0))), (3, .ref (ad (39, 0, 0, 0))), (4, .ref (ad (43, 0, 0, 0))), (5, .ref (ad (44, 0, 0, 0))), (6, .ref (ad (41, 0, 0, 0))), (7, .ref (ad (42, 0, 0, 0))), (8, .ref (ad (40, 0, 0, 0))), (9, .ref (ad (45, 0, 0, 0))), (10, .int (nI d)), (11, .int (nI o))]) hx hb dL_isMerged_274 hl (k := 7) rfl (by decide) (by decide) rfl (fun ls hl => ?_)
  refine lv_goto (tgt := 319) hx hb dL_isMerged_277 (by decide) ?_
  exact kk H locs ls h (lv_sub hl [5, 6, 7, 0, 8, 9, 10, 11, 12, 13, 14, 15, 16, 17, 18, 19] rfl)

set_option maxHeartbeats 4000000 in
set_option maxRecDepth 100000 in
theorem sg_y01j (X : Cx p s mth args meth c cL_isMerged yL_isMerged.cls 23 D tc dz A) (hR1 : 12 ≤ R.frames) (hR2 : 400 ≤ R.locals) (hcR : cells ≤ R.cells) (hsR : slots ≤ R.slots) (hL : LV gm Ks) (Z : Mem) (hW : LW gm Ks) (hZ : OKX Z) (n m t : Nat) (hN : NR Z n m t) (hn2 : n ≤ 2) (hm10 : m ≤ 10) (ht9 : t ≤ 2000) (d o k gn gd : Nat) (hd : d < 6) (ho : o < 6) (hk2 : k < 2) (hne : d ≠ o) (kb ob : Nat) (hkb : kb < 2) (hob : ob < 2) (h43 : LL Z (43, 0, 0, 0) (2 * d + k) = nI (0 + 2 * kb)) (o43 : LL Z (43, 0, 0, 0) (2 * o + k) = nI (1 + 2 * ob)) (hold : oldR Z d o k = false) (h : Sx D A ad Ks (lay tc ad gm dz (LL Z)) s H locs) (hl : lv_has ls 23 [(15, .int (bI true)), (14, .int (nI k)), (13, .int (nI gd)), (12, .int (nI gn)), (0, .ref (ad (0, 0, 0, 0))), (1, .ref (ad (35, 0, 0, 0))), (2, .ref (ad (37, 0, 0, 0))), (3, .ref (ad (39, 0, 0, 0))), (4, .ref (ad (43, 0, 0, 0))), (5, .ref (ad (44, 0, 0, 0))), (6, .ref (ad (41, 0, 0, 0))), (7, .ref (ad (42, 0, 0, 0))), (8, .ref (ad (40, 0, 0, 0))), (9, .ref (ad (45, 0, 0, 0))), (10, .int (nI d)), (11, .int (nI o))])
    (kk : ∀ (H1 : Heap) (locs1 : List Loc) (ls1 : Array Slot), Sx D A ad Ks (lay tc ad gm dz (LL (joiM Z d o k m))) s H1 locs1 → lv_has ls1 23 [(15, .int (bI true)), (14, .int (nI k)), (13, .int (nI (gd + lgN Z d o k 4))), (12, .int (nI gn)), (0, .ref (ad (0, 0, 0, 0))), (1, .ref (ad (35, 0, 0, 0))), (2, .ref (ad (37, 0, 0, 0))), (3, .ref (ad (39, 0, 0, 0))), (4, .ref (ad (43, 0, 0, 0))), (5, .ref (ad (44, 0, 0, 0))), (6, .ref (ad (41, 0, 0, 0))), (7, .ref (ad (42, 0, 0, 0))), (8, .ref (ad (40, 0, 0, 0))), (9, .ref (ad (45, 0, 0, 0))), (10, .int (nI d)), (11, .int (nI o))] → W p l e R s mth args below meth c H1 locs1 cells slots Q (F0 mth 319 ls1 [])) : W p l e R s mth args below meth c H locs cells slots Q (F0 mth 136 ls []) := by
  obtain ⟨hx, hb, hmaxL, hown, hts⟩ := id X.1
  refine lv_aload hx hb dL_isMerged_136 (lv_at hl 8 rfl) ?_
  refine lv_iconst (v := nI 2) hx hb dL_isMerged_138 (by decide) ?_
  refine lv_iload hx hb dL_isMerged_139 (lv_at hl 14 rfl) ?_
  refine n_imul hx hb dL_isMerged_141 ?_
  refine lv_iload hx hb dL_isMerged_142 (lv_at hl 1 rfl) ?_
  refine n_iadd hx hb dL_isMerged_144 ?_
  refine y_ald X h (fun _ => rfl) (by decide) (hL (43, 0, 0, 0) ⟨by decide, rfl, rfl, rfl⟩) (by omega) (v := nI (0 + 2 * kb)) h43 dL_isMerged_145 ?_
  refine lv_iconst (v := nI 2) hx hb dL_isMerged_146 (by decide) ?_
  refine n_irem hx hb (by omega) (by omega) (by omega) dL_isMerged_147 ?_
  rw [show (0 + 2 * kb) % 2 = 0 from by omega]
  refine lv_istore (lv' := [(16, .int (nI 0)), (15, .int (bI true)), (14, .int (nI k)), (13, .int (nI gd)), (12, .int (nI gn)), (0, .ref (ad (0, 0, 0, 0))), (1, .ref (ad (35, 0, 0, 0))), (2, .ref (ad (37, 0, 0, 0))), (3, .ref (ad (39, 0, 0, 0))), (4, .ref (ad (43, 0, 0, 0))), (5, .ref (ad (44, 0, 0, 0))), (6, .ref (ad (41, 0, 0, 0))), (7, .ref (ad (42, 0, 0, 0))), (8, .ref (ad (40, 0, 0, 0))), (9, .ref (ad (45, 0, 0, 0))), (10, .int (nI d)), (11, .int (nI o))]) hx hb dL_isMerged_148 hl (by decide) rfl (fun ls hl => ?_)
  refine lv_aload hx hb dL_isMerged_150 (lv_at hl 9 rfl) ?_
  refine lv_iconst (v := nI 2) hx hb dL_isMerged_152 (by decide) ?_
  refine lv_iload hx hb dL_isMerged_153 (lv_at hl 16 rfl) ?_
  refine n_imul hx hb dL_isMerged_155 ?_
  refine lv_iload hx hb dL_isMerged_156 (lv_at hl 2 rfl) ?_
  refine n_iadd hx hb dL_isMerged_158 ?_
  refine y_ald X h (fun _ => rfl) (by decide) (hL (43, 0, 0, 0) ⟨by decide, rfl, rfl, rfl⟩) (by omega) (v := nI (1 + 2 * ob)) o43 dL_isMerged_159 ?_
  refine lv_iconst (v := nI 2) hx hb dL_isMerged_160 (by decide) ?_
  refine n_irem hx hb (by omega) (by omega) (by omega) dL_isMerged_161 ?_
  rw [show (1 + 2 * ob) % 2 = 1 from by omega]
  refine lv_istore (lv' := [(17, .int (nI 1)), (16, .int (nI 0)), (15, .int (bI true)), (14, .int (nI k)), (13, .int (nI gd)), (12, .int (nI gn)), (0, .ref (ad (0, 0, 0, 0))), (1, .ref (ad (35, 0, 0, 0))), (2, .ref (ad (37, 0, 0, 0))), (3, .ref (ad (39, 0, 0, 0))), (4, .ref (ad (43, 0, 0, 0))), (5, .ref (ad (44, 0, 0, 0))), (6, .ref (ad (41, 0, 0, 0))), (7, .ref (ad (42, 0, 0, 0))), (8, .ref (ad (40, 0, 0, 0))), (9, .ref (ad (45, 0, 0, 0))), (10, .int (nI d)), (11, .int (nI o))]) hx hb dL_isMerged_162 hl (by decide) rfl (fun ls hl => ?_)
  refine lv_iload hx hb dL_isMerged_164 (lv_at hl 2 rfl) ?_
  refine b_if_eq (tgt := 196) hx hb dL_isMerged_166 (by decide) (fun c => (Bool.noConfusion c)) (fun _ => ?_)
  refine lv_iload hx hb dL_isMerged_169 (lv_at hl 1 rfl) ?_
  refine lv_iload hx hb dL_isMerged_171 (lv_at hl 0 rfl) ?_
  refine lv_icmp_le (tgt := 196) hx hb dL_isMerged_173 (by decide) (fun _ => ?_) (fun c => absurd c (by decide))
  refine lv_iconst (v := nI 0) hx hb dL_isMerged_196 (by decide) ?_
  refine lv_istore (lv' := [(18, .int (nI 0)), (17, .int (nI 1)), (16, .int (nI 0)), (15, .int (bI true)), (14, .int (nI k)), (13, .int (nI gd)), (12, .int (nI gn)), (0, .ref (ad (0, 0, 0, 0))), (1, .ref (ad (35, 0, 0, 0))), (2, .ref (ad (37, 0, 0, 0))), (3, .ref (ad (39, 0, 0, 0))), (4, .ref (ad (43, 0, 0, 0))), (5, .ref (ad (44, 0, 0, 0))), (6, .ref (ad (41, 0, 0, 0))), (7, .ref (ad (42, 0, 0, 0))), (8, .ref (ad (40, 0, 0, 0))), (9, .ref (ad (45, 0, 0, 0))), (10, .int (nI d)), (11, .int (nI o))]) hx hb dL_isMerged_197 hl (by decide) rfl (fun ls hl => ?_)
  refine lv_iload hx hb dL_isMerged_199 (lv_at hl 3 rfl) ?_
  refine b_if_eq (tgt := 231) hx hb dL_isMerged_201 (by decide) (fun c => (Bool.noConfusion c)) (fun _ => ?_)
  refine lv_iload hx hb dL_isMerged_204 (lv_at hl 1 rfl) ?_
  refine lv_iload hx hb dL_isMerged_206 (lv_at hl 2 rfl) ?_
  refine lv_icmp_le (tgt := 231) hx hb dL_isMerged_208 (by decide) (fun c => absurd c (by decide)) (fun _ => ?_)
  refine lv_aload_n hx hb dL_isMerged_211 rfl (lv_at hl 8 rfl) ?_
  refine lv_aload_n hx hb dL_isMerged_212 rfl (lv_at hl 10 rfl) ?_
  refine lv_aload hx hb dL_isMerged_213 (lv_at hl 11 rfl) ?_
  refine lv_iload hx hb dL_isMerged_215 (lv_at hl 17 rfl) ?_
  refine lv_iload hx hb dL_isMerged_217 (lv_at hl 18 rfl) ?_
  refine lv_iload hx hb dL_isMerged_219 (lv_at hl 4 rfl) ?_
  refine x_doneI X h (x_runS X h (m_L_isOld Z hL hZ.1 hZ.k01 d o k (by omega) (by omega) (by omega) _) F_L_isOld q778 q779 rfl (Nat.le_trans (by decide) hR1) (Nat.le_trans (by decide) hR2) ⟨hcR, hsR⟩ hl.1 (Nat.le_of_ble_eq_true rfl) dL_isMerged_221 rfl) (fun H locs h => ?_)
  refine b_if_eq (tgt := 231) hx hb dL_isMerged_224 (by decide) (fun _ => ?_) (fun c => by rw [hold] at c; cases c)
  refine lv_iconst (v := nI 0) hx hb dL_isMerged_231 (by decide) ?_
  refine lv_istore (lv' := [(19, .int (nI 0)), (18, .int (nI 0)), (17, .int (nI 1)), (16, .int (nI 0)), (15, .int (bI true)), (14, .int (nI k)), (13, .int (nI gd)), (12, .int (nI gn)), (0, .ref (ad (0, 0, 0, 0))), (1, .ref (ad (35, 0, 0, 0))), (2, .ref (ad (37, 0, 0, 0))), (3, .ref (ad (39, 0, 0, 0))), (4, .ref (ad (43, 0, 0, 0))), (5, .ref (ad (44, 0, 0, 0))), (6, .ref (ad (41, 0, 0, 0))), (7, .ref (ad (42, 0, 0, 0))), (8, .ref (ad (40, 0, 0, 0))), (9, .ref (ad (45, 0, 0, 0))), (10, .int (nI d)), (11, .int (nI o))]) hx hb dL_isMerged_232 hl (by decide) rfl (fun ls hl => ?_)
  refine lv_iload hx hb dL_isMerged_234 (lv_at hl 1 rfl) ?_
  refine lv_if_ne (tgt := 244) hx hb dL_isMerged_236 (by decide) (fun c => absurd c (by decide)) (fun _ => ?_)
  refine lv_iload hx hb dL_isMerged_239 (lv_at hl 0 rfl) ?_
  refine lv_if_eq (tgt := 280) hx hb dL_isMerged_241 (by decide) (fun _ => ?_) (fun c => absurd c (by decide))
  refine lv_iload hx hb dL_isMerged_280 (lv_at hl 4 rfl) ?_
  refine b_if_eq (tgt := 319) hx hb dL_isMerged_282 (by decide) (fun c => (Bool.noConfusion c)) (fun _ => ?_)
  refine lv_iload hx hb dL_isMerged_285 (lv_at hl 3 rfl) ?_
  refine lv_iload hx hb dL_isMerged_287 (lv_at hl 2 rfl) ?_
  refine n_iadd hx hb dL_isMerged_289 ?_
  rw [show nI (0 + 1) = nI 1 from rfl]
  refine lv_if_le (tgt := 319) hx hb dL_isMerged_290 (by decide) (fun c => absurd c (by decide)) (fun _ => ?_)
  refine lv_iload hx hb dL_isMerged_293 (lv_at hl 6 rfl) ?_
  refine lv_aload_n hx hb dL_isMerged_295 rfl (lv_at hl 9 rfl) ?_
  refine lv_aload_n hx hb dL_isMerged_296 rfl (lv_at hl 10 rfl) ?_
  refine lv_aload hx hb dL_isMerged_297 (lv_at hl 12 rfl) ?_
  refine lv_aload hx hb dL_isMerged_299 (lv_at hl 13 rfl) ?_
  refine lv_aload hx hb dL_isMerged_301 (lv_at hl 15 rfl) ?_
  refine lv_aload hx hb dL_isMerged_303 (lv_at hl 16 rfl) ?_
  refine lv_aload hx hb dL_isMerged_305 (lv_at hl 17 rfl) ?_
  refine lv_iload hx hb dL_isMerged_307 (lv_at hl 18 rfl) ?_
  refine lv_iload hx hb dL_isMerged_309 (lv_at hl 19 rfl) ?_
  refine lv_iload hx hb dL_isMerged_311 (lv_at hl 5 rfl) ?_
  refine x_doneI X h (x_runS X h (m_L_joins Z hL hW hZ.1 hZ.tr hZ.k01 n m t hN hn2 hm10 ht9 d o k (by omega) (by omega) (by omega) hne _) F_L_joins q784 q785 rfl (Nat.le_trans (by decide) hR1) (Nat.le_trans (by decide) hR2) ⟨hcR, hsR⟩ hl.1 (Nat.le_of_ble_eq_true rfl) dL_isMerged_313 rfl) (fun H locs h => ?_)
  refine n_iadd hx hb dL_isMerged_316 ?_
  refine lv_istore (lv' := [(13, .int (nI (gd + (lgN Z d o k 4)))), (19, .int (nI 0)), (18, .int (nI 0)), (17, .int (nI 1)), (16, .int (nI 0)), (15, .int (bI true)), (14, .int (nI k)), (12, .int (nI gn)), (0, .ref (ad (0, 0, 0, 0))), (1, .ref (ad (35, 0, 0, 0))), (2, .ref (ad (37, 0, 0, 0))), (3, .ref (ad (39, 0, 0, 0))), (4, .ref (ad (43, 0, 0, 0))), (5, .ref (ad (44, 0, 0, 0))), (6, .ref (ad (41, 0, 0, 0))), (7, .ref (ad (42, 0, 0, 0))), (8, .ref (ad (40, 0, 0, 0))), (9, .ref (ad (45, 0, 0, 0))), (10, .int (nI d)), (11, .int (nI o))]) hx hb dL_isMerged_317 hl (by decide) rfl (fun ls hl => ?_)
  exact kk H locs ls h (lv_sub hl [5, 6, 0, 7, 8, 9, 10, 11, 12, 13, 14, 15, 16, 17, 18, 19] rfl)

set_option maxHeartbeats 4000000 in
set_option maxRecDepth 100000 in
theorem sg_y10o (X : Cx p s mth args meth c cL_isMerged yL_isMerged.cls 23 D tc dz A) (hR1 : 12 ≤ R.frames) (hR2 : 400 ≤ R.locals) (hcR : cells ≤ R.cells) (hsR : slots ≤ R.slots) (hL : LV gm Ks) (Z : Mem) (hW : LW gm Ks) (hZ : OKX Z) (n m t : Nat) (hN : NR Z n m t) (hn2 : n ≤ 2) (hm10 : m ≤ 10) (ht9 : t ≤ 2000) (d o k gn gd : Nat) (hd : d < 6) (ho : o < 6) (hk2 : k < 2) (hne : d ≠ o) (kb ob : Nat) (hkb : kb < 2) (hob : ob < 2) (h43 : LL Z (43, 0, 0, 0) (2 * d + k) = nI (1 + 2 * kb)) (o43 : LL Z (43, 0, 0, 0) (2 * o + k) = nI (0 + 2 * ob)) (hold : oldR Z o d k = true) (h : Sx D A ad Ks (lay tc ad gm dz (LL Z)) s H locs) (hl : lv_has ls 23 [(15, .int (bI true)), (14, .int (nI k)), (13, .int (nI gd)), (12, .int (nI gn)), (0, .ref (ad (0, 0, 0, 0))), (1, .ref (ad (35, 0, 0, 0))), (2, .ref (ad (37, 0, 0, 0))), (3, .ref (ad (39, 0, 0, 0))), (4, .ref (ad (43, 0, 0, 0))), (5, .ref (ad (44, 0, 0, 0))), (6, .ref (ad (41, 0, 0, 0))), (7, .ref (ad (42, 0, 0, 0))), (8, .ref (ad (40, 0, 0, 0))), (9, .ref (ad (45, 0, 0, 0))), (10, .int (nI d)), (11, .int (nI o))])
    (kk : ∀ (H1 : Heap) (locs1 : List Loc) (ls1 : Array Slot), Sx D A ad Ks (lay tc ad gm dz (LL (mforM Z d k m))) s H1 locs1 → lv_has ls1 23 [(15, .int (bI true)), (14, .int (nI k)), (13, .int (nI gd)), (12, .int (nI (gn + 1))), (0, .ref (ad (0, 0, 0, 0))), (1, .ref (ad (35, 0, 0, 0))), (2, .ref (ad (37, 0, 0, 0))), (3, .ref (ad (39, 0, 0, 0))), (4, .ref (ad (43, 0, 0, 0))), (5, .ref (ad (44, 0, 0, 0))), (6, .ref (ad (41, 0, 0, 0))), (7, .ref (ad (42, 0, 0, 0))), (8, .ref (ad (40, 0, 0, 0))), (9, .ref (ad (45, 0, 0, 0))), (10, .int (nI d)), (11, .int (nI o))] → W p l e R s mth args below meth c H1 locs1 cells slots Q (F0 mth 319 ls1 [])) : W p l e R s mth args below meth c H locs cells slots Q (F0 mth 136 ls []) := by
  obtain ⟨hx, hb, hmaxL, hown, hts⟩ := id X.1
  refine lv_aload hx hb dL_isMerged_136 (lv_at hl 8 rfl) ?_
  refine lv_iconst (v := nI 2) hx hb dL_isMerged_138 (by decide) ?_
  refine lv_iload hx hb dL_isMerged_139 (lv_at hl 14 rfl) ?_
  refine n_imul hx hb dL_isMerged_141 ?_
  refine lv_iload hx hb dL_isMerged_142 (lv_at hl 1 rfl) ?_
  refine n_iadd hx hb dL_isMerged_144 ?_
  refine y_ald X h (fun _ => rfl) (by decide) (hL (43, 0, 0, 0) ⟨by decide, rfl, rfl, rfl⟩) (by omega) (v := nI (1 + 2 * kb)) h43 dL_isMerged_145 ?_
  refine lv_iconst (v := nI 2) hx hb dL_isMerged_146 (by decide) ?_
  refine n_irem hx hb (by omega) (by omega) (by omega) dL_isMerged_147 ?_
  rw [show (1 + 2 * kb) % 2 = 1 from by omega]
  refine lv_istore (lv' := [(16, .int (nI 1)), (15, .int (bI true)), (14, .int (nI k)), (13, .int (nI gd)), (12, .int (nI gn)), (0, .ref (ad (0, 0, 0, 0))), (1, .ref (ad (35, 0, 0, 0))), (2, .ref (ad (37, 0, 0, 0))), (3, .ref (ad (39, 0, 0, 0))), (4, .ref (ad (43, 0, 0, 0))), (5, .ref (ad (44, 0, 0, 0))), (6, .ref (ad (41, 0, 0, 0))), (7, .ref (ad (42, 0, 0, 0))), (8, .ref (ad (40, 0, 0, 0))), (9, .ref (ad (45, 0, 0, 0))), (10, .int (nI d)), (11, .int (nI o))]) hx hb dL_isMerged_148 hl (by decide) rfl (fun ls hl => ?_)
  refine lv_aload hx hb dL_isMerged_150 (lv_at hl 9 rfl) ?_
  refine lv_iconst (v := nI 2) hx hb dL_isMerged_152 (by decide) ?_
  refine lv_iload hx hb dL_isMerged_153 (lv_at hl 16 rfl) ?_
  refine n_imul hx hb dL_isMerged_155 ?_
  refine lv_iload hx hb dL_isMerged_156 (lv_at hl 2 rfl) ?_
  refine n_iadd hx hb dL_isMerged_158 ?_
  refine y_ald X h (fun _ => rfl) (by decide) (hL (43, 0, 0, 0) ⟨by decide, rfl, rfl, rfl⟩) (by omega) (v := nI (0 + 2 * ob)) o43 dL_isMerged_159 ?_
  refine lv_iconst (v := nI 2) hx hb dL_isMerged_160 (by decide) ?_
  refine n_irem hx hb (by omega) (by omega) (by omega) dL_isMerged_161 ?_
  rw [show (0 + 2 * ob) % 2 = 0 from by omega]
  refine lv_istore (lv' := [(17, .int (nI 0)), (16, .int (nI 1)), (15, .int (bI true)), (14, .int (nI k)), (13, .int (nI gd)), (12, .int (nI gn)), (0, .ref (ad (0, 0, 0, 0))), (1, .ref (ad (35, 0, 0, 0))), (2, .ref (ad (37, 0, 0, 0))), (3, .ref (ad (39, 0, 0, 0))), (4, .ref (ad (43, 0, 0, 0))), (5, .ref (ad (44, 0, 0, 0))), (6, .ref (ad (41, 0, 0, 0))), (7, .ref (ad (42, 0, 0, 0))), (8, .ref (ad (40, 0, 0, 0))), (9, .ref (ad (45, 0, 0, 0))), (10, .int (nI d)), (11, .int (nI o))]) hx hb dL_isMerged_162 hl (by decide) rfl (fun ls hl => ?_)
  refine lv_iload hx hb dL_isMerged_164 (lv_at hl 2 rfl) ?_
  refine b_if_eq (tgt := 196) hx hb dL_isMerged_166 (by decide) (fun c => (Bool.noConfusion c)) (fun _ => ?_)
  refine lv_iload hx hb dL_isMerged_169 (lv_at hl 1 rfl) ?_
  refine lv_iload hx hb dL_isMerged_171 (lv_at hl 0 rfl) ?_
  refine lv_icmp_le (tgt := 196) hx hb dL_isMerged_173 (by decide) (fun c => absurd c (by decide)) (fun _ => ?_)
  refine lv_aload_n hx hb dL_isMerged_176 rfl (lv_at hl 7 rfl) ?_
  refine lv_aload_n hx hb dL_isMerged_177 rfl (lv_at hl 9 rfl) ?_
  refine lv_aload hx hb dL_isMerged_178 (lv_at hl 10 rfl) ?_
  refine lv_iload hx hb dL_isMerged_180 (lv_at hl 17 rfl) ?_
  refine lv_iload hx hb dL_isMerged_182 (lv_at hl 16 rfl) ?_
  refine lv_iload hx hb dL_isMerged_184 (lv_at hl 3 rfl) ?_
  refine x_doneI X h (x_runS X h (m_L_isOld Z hL hZ.1 hZ.k01 o d k (by omega) (by omega) (by omega) _) F_L_isOld q778 q779 rfl (Nat.le_trans (by decide) hR1) (Nat.le_trans (by decide) hR2) ⟨hcR, hsR⟩ hl.1 (Nat.le_of_ble_eq_true rfl) dL_isMerged_186 rfl) (fun H locs h => ?_)
  refine b_if_eq (tgt := 196) hx hb dL_isMerged_189 (by decide) (fun c => by rw [hold] at c; cases c) (fun _ => ?_)
  refine lv_iconst (v := nI 1) hx hb dL_isMerged_192 (by decide) ?_
  refine lv_goto (tgt := 197) hx hb dL_isMerged_193 (by decide) ?_
  refine lv_istore (lv' := [(18, .int (nI 1)), (17, .int (nI 0)), (16, .int (nI 1)), (15, .int (bI true)), (14, .int (nI k)), (13, .int (nI gd)), (12, .int (nI gn)), (0, .ref (ad (0, 0, 0, 0))), (1, .ref (ad (35, 0, 0, 0))), (2, .ref (ad (37, 0, 0, 0))), (3, .ref (ad (39, 0, 0, 0))), (4, .ref (ad (43, 0, 0, 0))), (5, .ref (ad (44, 0, 0, 0))), (6, .ref (ad (41, 0, 0, 0))), (7, .ref (ad (42, 0, 0, 0))), (8, .ref (ad (40, 0, 0, 0))), (9, .ref (ad (45, 0, 0, 0))), (10, .int (nI d)), (11, .int (nI o))]) hx hb dL_isMerged_197 hl (by decide) rfl (fun ls hl => ?_)
  refine lv_iload hx hb dL_isMerged_199 (lv_at hl 3 rfl) ?_
  refine b_if_eq (tgt := 231) hx hb dL_isMerged_201 (by decide) (fun c => (Bool.noConfusion c)) (fun _ => ?_)
  refine lv_iload hx hb dL_isMerged_204 (lv_at hl 1 rfl) ?_
  refine lv_iload hx hb dL_isMerged_206 (lv_at hl 2 rfl) ?_
  refine lv_icmp_le (tgt := 231) hx hb dL_isMerged_208 (by decide) (fun _ => ?_) (fun c => absurd c (by decide))
  refine lv_iconst (v := nI 0) hx hb dL_isMerged_231 (by decide) ?_
  refine lv_istore (lv' := [(19, .int (nI 0)), (18, .int (nI 1)), (17, .int (nI 0)), (16, .int (nI 1)), (15, .int (bI true)), (14, .int (nI k)), (13, .int (nI gd)), (12, .int (nI gn)), (0, .ref (ad (0, 0, 0, 0))), (1, .ref (ad (35, 0, 0, 0))), (2, .ref (ad (37, 0, 0, 0))), (3, .ref (ad (39, 0, 0, 0))), (4, .ref (ad (43, 0, 0, 0))), (5, .ref (ad (44, 0, 0, 0))), (6, .ref (ad (41, 0, 0, 0))), (7, .ref (ad (42, 0, 0, 0))), (8, .ref (ad (40, 0, 0, 0))), (9, .ref (ad (45, 0, 0, 0))), (10, .int (nI d)), (11, .int (nI o))]) hx hb dL_isMerged_232 hl (by decide) rfl (fun ls hl => ?_)
  refine lv_iload hx hb dL_isMerged_234 (lv_at hl 1 rfl) ?_
  refine lv_if_ne (tgt := 244) hx hb dL_isMerged_236 (by decide) (fun _ => ?_) (fun c => absurd c (by decide))
  refine lv_aload_n hx hb dL_isMerged_244 rfl (lv_at hl 9 rfl) ?_
  refine lv_aload_n hx hb dL_isMerged_245 rfl (lv_at hl 10 rfl) ?_
  refine lv_aload_n hx hb dL_isMerged_246 rfl (lv_at hl 11 rfl) ?_
  refine lv_aload hx hb dL_isMerged_247 (lv_at hl 12 rfl) ?_
  refine lv_aload hx hb dL_isMerged_249 (lv_at hl 14 rfl) ?_
  refine lv_aload hx hb dL_isMerged_251 (lv_at hl 15 rfl) ?_
  refine lv_aload hx hb dL_isMerged_253 (lv_at hl 16 rfl) ?_
  refine lv_aload hx hb dL_isMerged_255 (lv_at hl 17 rfl) ?_
  refine lv_iload hx hb dL_isMerged_257 (lv_at hl 1 rfl) ?_
  refine lv_if_eq (tgt := 267) hx hb dL_isMerged_259 (by decide) (fun c => absurd c (by decide)) (fun _ => ?_)
  refine lv_iload hx hb dL_isMerged_262 (lv_at hl 18 rfl) ?_
  refine lv_goto (tgt := 269) hx hb dL_isMerged_264 (by decide) ?_
  refine lv_iload hx hb dL_isMerged_269 (lv_at hl 5 rfl) ?_
  refine x_doneV X h (x_runS X h (m_L_forgets Z hL hW hZ.1 hZ.tr n m t hN hn2 hm10 ht9 d k (by omega) (by omega) _) F_L_forgets q781 q782 rfl (Nat.le_trans (by decide) hR1) (Nat.le_trans (by decide) hR2) ⟨hcR, hsR⟩ hl.1 (Nat.le_of_ble_eq_true rfl) dL_isMerged_271 rfl) (fun H locs h => ?_)
  refine n_iinc (j := gn) (n := 1) (lv' := [(12, .int (nI (gn + 1))), (19, .int (nI 0)), (18, .int (nI 1)), (17, .int (nI 0)), (16, .int (nI 1)), (15, .int (bI true)), (14, .int (nI k)), (13, .int (nI gd)), (0, .ref (ad (0, 0, 0, 0))), (1, .ref (ad (35, 0, 0, 0))), (2, .ref (ad (37, 0, 0, 0))), (3, .ref (ad (39, 0, 0, 0))), (4, .ref (ad (43, 0, 0, 0))), (5, .ref (ad (44, 0, 0, 0))), (6, .ref (ad (41, 0, 0, 0))), (7, .ref (ad (42, 0, 0, 0))), (8, .ref (ad (40, 0, 0, 0))), (9, .ref (ad (45, 0, 0, 0))), (10, .int (nI d)), (11, .int (nI o))]) hx hb dL_isMerged_274 hl (k := 7) rfl (by decide) (by decide) rfl (fun ls hl => ?_)
  refine lv_goto (tgt := 319) hx hb dL_isMerged_277 (by decide) ?_
  exact kk H locs ls h (lv_sub hl [5, 6, 7, 0, 8, 9, 10, 11, 12, 13, 14, 15, 16, 17, 18, 19] rfl)

set_option maxHeartbeats 4000000 in
set_option maxRecDepth 100000 in
theorem sg_y10j (X : Cx p s mth args meth c cL_isMerged yL_isMerged.cls 23 D tc dz A) (hR1 : 12 ≤ R.frames) (hR2 : 400 ≤ R.locals) (hcR : cells ≤ R.cells) (hsR : slots ≤ R.slots) (hL : LV gm Ks) (Z : Mem) (hW : LW gm Ks) (hZ : OKX Z) (n m t : Nat) (hN : NR Z n m t) (hn2 : n ≤ 2) (hm10 : m ≤ 10) (ht9 : t ≤ 2000) (d o k gn gd : Nat) (hd : d < 6) (ho : o < 6) (hk2 : k < 2) (hne : d ≠ o) (kb ob : Nat) (hkb : kb < 2) (hob : ob < 2) (h43 : LL Z (43, 0, 0, 0) (2 * d + k) = nI (1 + 2 * kb)) (o43 : LL Z (43, 0, 0, 0) (2 * o + k) = nI (0 + 2 * ob)) (hold : oldR Z o d k = false) (h : Sx D A ad Ks (lay tc ad gm dz (LL Z)) s H locs) (hl : lv_has ls 23 [(15, .int (bI true)), (14, .int (nI k)), (13, .int (nI gd)), (12, .int (nI gn)), (0, .ref (ad (0, 0, 0, 0))), (1, .ref (ad (35, 0, 0, 0))), (2, .ref (ad (37, 0, 0, 0))), (3, .ref (ad (39, 0, 0, 0))), (4, .ref (ad (43, 0, 0, 0))), (5, .ref (ad (44, 0, 0, 0))), (6, .ref (ad (41, 0, 0, 0))), (7, .ref (ad (42, 0, 0, 0))), (8, .ref (ad (40, 0, 0, 0))), (9, .ref (ad (45, 0, 0, 0))), (10, .int (nI d)), (11, .int (nI o))])
    (kk : ∀ (H1 : Heap) (locs1 : List Loc) (ls1 : Array Slot), Sx D A ad Ks (lay tc ad gm dz (LL (joiM Z d o k m))) s H1 locs1 → lv_has ls1 23 [(15, .int (bI true)), (14, .int (nI k)), (13, .int (nI (gd + lgN Z d o k 4))), (12, .int (nI gn)), (0, .ref (ad (0, 0, 0, 0))), (1, .ref (ad (35, 0, 0, 0))), (2, .ref (ad (37, 0, 0, 0))), (3, .ref (ad (39, 0, 0, 0))), (4, .ref (ad (43, 0, 0, 0))), (5, .ref (ad (44, 0, 0, 0))), (6, .ref (ad (41, 0, 0, 0))), (7, .ref (ad (42, 0, 0, 0))), (8, .ref (ad (40, 0, 0, 0))), (9, .ref (ad (45, 0, 0, 0))), (10, .int (nI d)), (11, .int (nI o))] → W p l e R s mth args below meth c H1 locs1 cells slots Q (F0 mth 319 ls1 [])) : W p l e R s mth args below meth c H locs cells slots Q (F0 mth 136 ls []) := by
  obtain ⟨hx, hb, hmaxL, hown, hts⟩ := id X.1
  refine lv_aload hx hb dL_isMerged_136 (lv_at hl 8 rfl) ?_
  refine lv_iconst (v := nI 2) hx hb dL_isMerged_138 (by decide) ?_
  refine lv_iload hx hb dL_isMerged_139 (lv_at hl 14 rfl) ?_
  refine n_imul hx hb dL_isMerged_141 ?_
  refine lv_iload hx hb dL_isMerged_142 (lv_at hl 1 rfl) ?_
  refine n_iadd hx hb dL_isMerged_144 ?_
  refine y_ald X h (fun _ => rfl) (by decide) (hL (43, 0, 0, 0) ⟨by decide, rfl, rfl, rfl⟩) (by omega) (v := nI (1 + 2 * kb)) h43 dL_isMerged_145 ?_
  refine lv_iconst (v := nI 2) hx hb dL_isMerged_146 (by decide) ?_
  refine n_irem hx hb (by omega) (by omega) (by omega) dL_isMerged_147 ?_
  rw [show (1 + 2 * kb) % 2 = 1 from by omega]
  refine lv_istore (lv' := [(16, .int (nI 1)), (15, .int (bI true)), (14, .int (nI k)), (13, .int (nI gd)), (12, .int (nI gn)), (0, .ref (ad (0, 0, 0, 0))), (1, .ref (ad (35, 0, 0, 0))), (2, .ref (ad (37, 0, 0, 0))), (3, .ref (ad (39, 0, 0, 0))), (4, .ref (ad (43, 0, 0, 0))), (5, .ref (ad (44, 0, 0, 0))), (6, .ref (ad (41, 0, 0, 0))), (7, .ref (ad (42, 0, 0, 0))), (8, .ref (ad (40, 0, 0, 0))), (9, .ref (ad (45, 0, 0, 0))), (10, .int (nI d)), (11, .int (nI o))]) hx hb dL_isMerged_148 hl (by decide) rfl (fun ls hl => ?_)
  refine lv_aload hx hb dL_isMerged_150 (lv_at hl 9 rfl) ?_
  refine lv_iconst (v := nI 2) hx hb dL_isMerged_152 (by decide) ?_
  refine lv_iload hx hb dL_isMerged_153 (lv_at hl 16 rfl) ?_
  refine n_imul hx hb dL_isMerged_155 ?_
  refine lv_iload hx hb dL_isMerged_156 (lv_at hl 2 rfl) ?_
  refine n_iadd hx hb dL_isMerged_158 ?_
  refine y_ald X h (fun _ => rfl) (by decide) (hL (43, 0, 0, 0) ⟨by decide, rfl, rfl, rfl⟩) (by omega) (v := nI (0 + 2 * ob)) o43 dL_isMerged_159 ?_
  refine lv_iconst (v := nI 2) hx hb dL_isMerged_160 (by decide) ?_
  refine n_irem hx hb (by omega) (by omega) (by omega) dL_isMerged_161 ?_
  rw [show (0 + 2 * ob) % 2 = 0 from by omega]
  refine lv_istore (lv' := [(17, .int (nI 0)), (16, .int (nI 1)), (15, .int (bI true)), (14, .int (nI k)), (13, .int (nI gd)), (12, .int (nI gn)), (0, .ref (ad (0, 0, 0, 0))), (1, .ref (ad (35, 0, 0, 0))), (2, .ref (ad (37, 0, 0, 0))), (3, .ref (ad (39, 0, 0, 0))), (4, .ref (ad (43, 0, 0, 0))), (5, .ref (ad (44, 0, 0, 0))), (6, .ref (ad (41, 0, 0, 0))), (7, .ref (ad (42, 0, 0, 0))), (8, .ref (ad (40, 0, 0, 0))), (9, .ref (ad (45, 0, 0, 0))), (10, .int (nI d)), (11, .int (nI o))]) hx hb dL_isMerged_162 hl (by decide) rfl (fun ls hl => ?_)
  refine lv_iload hx hb dL_isMerged_164 (lv_at hl 2 rfl) ?_
  refine b_if_eq (tgt := 196) hx hb dL_isMerged_166 (by decide) (fun c => (Bool.noConfusion c)) (fun _ => ?_)
  refine lv_iload hx hb dL_isMerged_169 (lv_at hl 1 rfl) ?_
  refine lv_iload hx hb dL_isMerged_171 (lv_at hl 0 rfl) ?_
  refine lv_icmp_le (tgt := 196) hx hb dL_isMerged_173 (by decide) (fun c => absurd c (by decide)) (fun _ => ?_)
  refine lv_aload_n hx hb dL_isMerged_176 rfl (lv_at hl 7 rfl) ?_
  refine lv_aload_n hx hb dL_isMerged_177 rfl (lv_at hl 9 rfl) ?_
  refine lv_aload hx hb dL_isMerged_178 (lv_at hl 10 rfl) ?_
  refine lv_iload hx hb dL_isMerged_180 (lv_at hl 17 rfl) ?_
  refine lv_iload hx hb dL_isMerged_182 (lv_at hl 16 rfl) ?_
  refine lv_iload hx hb dL_isMerged_184 (lv_at hl 3 rfl) ?_
  refine x_doneI X h (x_runS X h (m_L_isOld Z hL hZ.1 hZ.k01 o d k (by omega) (by omega) (by omega) _) F_L_isOld q778 q779 rfl (Nat.le_trans (by decide) hR1) (Nat.le_trans (by decide) hR2) ⟨hcR, hsR⟩ hl.1 (Nat.le_of_ble_eq_true rfl) dL_isMerged_186 rfl) (fun H locs h => ?_)
  refine b_if_eq (tgt := 196) hx hb dL_isMerged_189 (by decide) (fun _ => ?_) (fun c => by rw [hold] at c; cases c)
  refine lv_iconst (v := nI 0) hx hb dL_isMerged_196 (by decide) ?_
  refine lv_istore (lv' := [(18, .int (nI 0)), (17, .int (nI 0)), (16, .int (nI 1)), (15, .int (bI true)), (14, .int (nI k)), (13, .int (nI gd)), (12, .int (nI gn)), (0, .ref (ad (0, 0, 0, 0))), (1, .ref (ad (35, 0, 0, 0))), (2, .ref (ad (37, 0, 0, 0))), (3, .ref (ad (39, 0, 0, 0))), (4, .ref (ad (43, 0, 0, 0))), (5, .ref (ad (44, 0, 0, 0))), (6, .ref (ad (41, 0, 0, 0))), (7, .ref (ad (42, 0, 0, 0))), (8, .ref (ad (40, 0, 0, 0))), (9, .ref (ad (45, 0, 0, 0))), (10, .int (nI d)), (11, .int (nI o))]) hx hb dL_isMerged_197 hl (by decide) rfl (fun ls hl => ?_)
  refine lv_iload hx hb dL_isMerged_199 (lv_at hl 3 rfl) ?_
  refine b_if_eq (tgt := 231) hx hb dL_isMerged_201 (by decide) (fun c => (Bool.noConfusion c)) (fun _ => ?_)
  refine lv_iload hx hb dL_isMerged_204 (lv_at hl 1 rfl) ?_
  refine lv_iload hx hb dL_isMerged_206 (lv_at hl 2 rfl) ?_
  refine lv_icmp_le (tgt := 231) hx hb dL_isMerged_208 (by decide) (fun _ => ?_) (fun c => absurd c (by decide))
  refine lv_iconst (v := nI 0) hx hb dL_isMerged_231 (by decide) ?_
  refine lv_istore (lv' := [(19, .int (nI 0)), (18, .int (nI 0)), (17, .int (nI 0)), (16, .int (nI 1)), (15, .int (bI true)), (14, .int (nI k)), (13, .int (nI gd)), (12, .int (nI gn)), (0, .ref (ad (0, 0, 0, 0))), (1, .ref (ad (35, 0, 0, 0))), (2, .ref (ad (37, 0, 0, 0))), (3, .ref (ad (39, 0, 0, 0))), (4, .ref (ad (43, 0, 0, 0))), (5, .ref (ad (44, 0, 0, 0))), (6, .ref (ad (41, 0, 0, 0))), (7, .ref (ad (42, 0, 0, 0))), (8, .ref (ad (40, 0, 0, 0))), (9, .ref (ad (45, 0, 0, 0))), (10, .int (nI d)), (11, .int (nI o))]) hx hb dL_isMerged_232 hl (by decide) rfl (fun ls hl => ?_)
  refine lv_iload hx hb dL_isMerged_234 (lv_at hl 1 rfl) ?_
  refine lv_if_ne (tgt := 244) hx hb dL_isMerged_236 (by decide) (fun c => absurd c (by decide)) (fun _ => ?_)
  refine lv_iload hx hb dL_isMerged_239 (lv_at hl 0 rfl) ?_
  refine lv_if_eq (tgt := 280) hx hb dL_isMerged_241 (by decide) (fun _ => ?_) (fun c => absurd c (by decide))
  refine lv_iload hx hb dL_isMerged_280 (lv_at hl 4 rfl) ?_
  refine b_if_eq (tgt := 319) hx hb dL_isMerged_282 (by decide) (fun c => (Bool.noConfusion c)) (fun _ => ?_)
  refine lv_iload hx hb dL_isMerged_285 (lv_at hl 3 rfl) ?_
  refine lv_iload hx hb dL_isMerged_287 (lv_at hl 2 rfl) ?_
  refine n_iadd hx hb dL_isMerged_289 ?_
  rw [show nI (1 + 0) = nI 1 from rfl]
  refine lv_if_le (tgt := 319) hx hb dL_isMerged_290 (by decide) (fun c => absurd c (by decide)) (fun _ => ?_)
  refine lv_iload hx hb dL_isMerged_293 (lv_at hl 6 rfl) ?_
  refine lv_aload_n hx hb dL_isMerged_295 rfl (lv_at hl 9 rfl) ?_
  refine lv_aload_n hx hb dL_isMerged_296 rfl (lv_at hl 10 rfl) ?_
  refine lv_aload hx hb dL_isMerged_297 (lv_at hl 12 rfl) ?_
  refine lv_aload hx hb dL_isMerged_299 (lv_at hl 13 rfl) ?_
  refine lv_aload hx hb dL_isMerged_301 (lv_at hl 15 rfl) ?_
  refine lv_aload hx hb dL_isMerged_303 (lv_at hl 16 rfl) ?_
  refine lv_aload hx hb dL_isMerged_305 (lv_at hl 17 rfl) ?_
  refine lv_iload hx hb dL_isMerged_307 (lv_at hl 18 rfl) ?_
  refine lv_iload hx hb dL_isMerged_309 (lv_at hl 19 rfl) ?_
  refine lv_iload hx hb dL_isMerged_311 (lv_at hl 5 rfl) ?_
  refine x_doneI X h (x_runS X h (m_L_joins Z hL hW hZ.1 hZ.tr hZ.k01 n m t hN hn2 hm10 ht9 d o k (by omega) (by omega) (by omega) hne _) F_L_joins q784 q785 rfl (Nat.le_trans (by decide) hR1) (Nat.le_trans (by decide) hR2) ⟨hcR, hsR⟩ hl.1 (Nat.le_of_ble_eq_true rfl) dL_isMerged_313 rfl) (fun H locs h => ?_)
  refine n_iadd hx hb dL_isMerged_316 ?_
  refine lv_istore (lv' := [(13, .int (nI (gd + (lgN Z d o k 4)))), (19, .int (nI 0)), (18, .int (nI 0)), (17, .int (nI 0)), (16, .int (nI 1)), (15, .int (bI true)), (14, .int (nI k)), (12, .int (nI gn)), (0, .ref (ad (0, 0, 0, 0))), (1, .ref (ad (35, 0, 0, 0))), (2, .ref (ad (37, 0, 0, 0))), (3, .ref (ad (39, 0, 0, 0))), (4, .ref (ad (43, 0, 0, 0))), (5, .ref (ad (44, 0, 0, 0))), (6, .ref (ad (41, 0, 0, 0))), (7, .ref (ad (42, 0, 0, 0))), (8, .ref (ad (40, 0, 0, 0))), (9, .ref (ad (45, 0, 0, 0))), (10, .int (nI d)), (11, .int (nI o))]) hx hb dL_isMerged_317 hl (by decide) rfl (fun ls hl => ?_)
  exact kk H locs ls h (lv_sub hl [5, 6, 0, 7, 8, 9, 10, 11, 12, 13, 14, 15, 16, 17, 18, 19] rfl)

set_option maxHeartbeats 4000000 in
set_option maxRecDepth 100000 in
theorem sg_y11 (X : Cx p s mth args meth c cL_isMerged yL_isMerged.cls 23 D tc dz A) (hR1 : 12 ≤ R.frames) (hR2 : 400 ≤ R.locals) (hcR : cells ≤ R.cells) (hsR : slots ≤ R.slots) (hL : LV gm Ks) (Z : Mem) (hW : LW gm Ks) (hZ : OKX Z) (n m t : Nat) (hN : NR Z n m t) (hn2 : n ≤ 2) (hm10 : m ≤ 10) (ht9 : t ≤ 2000) (d o k gn gd : Nat) (hd : d < 6) (ho : o < 6) (hk2 : k < 2) (hne : d ≠ o) (kb ob : Nat) (hkb : kb < 2) (hob : ob < 2) (h43 : LL Z (43, 0, 0, 0) (2 * d + k) = nI (1 + 2 * kb)) (o43 : LL Z (43, 0, 0, 0) (2 * o + k) = nI (1 + 2 * ob)) (h : Sx D A ad Ks (lay tc ad gm dz (LL Z)) s H locs) (hl : lv_has ls 23 [(15, .int (bI true)), (14, .int (nI k)), (13, .int (nI gd)), (12, .int (nI gn)), (0, .ref (ad (0, 0, 0, 0))), (1, .ref (ad (35, 0, 0, 0))), (2, .ref (ad (37, 0, 0, 0))), (3, .ref (ad (39, 0, 0, 0))), (4, .ref (ad (43, 0, 0, 0))), (5, .ref (ad (44, 0, 0, 0))), (6, .ref (ad (41, 0, 0, 0))), (7, .ref (ad (42, 0, 0, 0))), (8, .ref (ad (40, 0, 0, 0))), (9, .ref (ad (45, 0, 0, 0))), (10, .int (nI d)), (11, .int (nI o))])
    (kk : ∀ (H1 : Heap) (locs1 : List Loc) (ls1 : Array Slot), Sx D A ad Ks (lay tc ad gm dz (LL (joiM Z d o k m))) s H1 locs1 → lv_has ls1 23 [(15, .int (bI true)), (14, .int (nI k)), (13, .int (nI (gd + lgN Z d o k 4))), (12, .int (nI gn)), (0, .ref (ad (0, 0, 0, 0))), (1, .ref (ad (35, 0, 0, 0))), (2, .ref (ad (37, 0, 0, 0))), (3, .ref (ad (39, 0, 0, 0))), (4, .ref (ad (43, 0, 0, 0))), (5, .ref (ad (44, 0, 0, 0))), (6, .ref (ad (41, 0, 0, 0))), (7, .ref (ad (42, 0, 0, 0))), (8, .ref (ad (40, 0, 0, 0))), (9, .ref (ad (45, 0, 0, 0))), (10, .int (nI d)), (11, .int (nI o))] → W p l e R s mth args below meth c H1 locs1 cells slots Q (F0 mth 319 ls1 [])) : W p l e R s mth args below meth c H locs cells slots Q (F0 mth 136 ls []) := by
  obtain ⟨hx, hb, hmaxL, hown, hts⟩ := id X.1
  refine lv_aload hx hb dL_isMerged_136 (lv_at hl 8 rfl) ?_
  refine lv_iconst (v := nI 2) hx hb dL_isMerged_138 (by decide) ?_
  refine lv_iload hx hb dL_isMerged_139 (lv_at hl 14 rfl) ?_
  refine n_imul hx hb dL_isMerged_141 ?_
  refine lv_iload hx hb dL_isMerged_142 (lv_at hl 1 rfl) ?_
  refine n_iadd hx hb dL_isMerged_144 ?_
  refine y_ald X h (fun _ => rfl) (by decide) (hL (43, 0, 0, 0) ⟨by decide, rfl, rfl, rfl⟩) (by omega) (v := nI (1 + 2 * kb)) h43 dL_isMerged_145 ?_
  refine lv_iconst (v := nI 2) hx hb dL_isMerged_146 (by decide) ?_
  refine n_irem hx hb (by omega) (by omega) (by omega) dL_isMerged_147 ?_
  rw [show (1 + 2 * kb) % 2 = 1 from by omega]
  refine lv_istore (lv' := [(16, .int (nI 1)), (15, .int (bI true)), (14, .int (nI k)), (13, .int (nI gd)), (12, .int (nI gn)), (0, .ref (ad (0, 0, 0, 0))), (1, .ref (ad (35, 0, 0, 0))), (2, .ref (ad (37, 0, 0, 0))), (3, .ref (ad (39, 0, 0, 0))), (4, .ref (ad (43, 0, 0, 0))), (5, .ref (ad (44, 0, 0, 0))), (6, .ref (ad (41, 0, 0, 0))), (7, .ref (ad (42, 0, 0, 0))), (8, .ref (ad (40, 0, 0, 0))), (9, .ref (ad (45, 0, 0, 0))), (10, .int (nI d)), (11, .int (nI o))]) hx hb dL_isMerged_148 hl (by decide) rfl (fun ls hl => ?_)
  refine lv_aload hx hb dL_isMerged_150 (lv_at hl 9 rfl) ?_
  refine lv_iconst (v := nI 2) hx hb dL_isMerged_152 (by decide) ?_
  refine lv_iload hx hb dL_isMerged_153 (lv_at hl 16 rfl) ?_
  refine n_imul hx hb dL_isMerged_155 ?_
  refine lv_iload hx hb dL_isMerged_156 (lv_at hl 2 rfl) ?_
  refine n_iadd hx hb dL_isMerged_158 ?_
  refine y_ald X h (fun _ => rfl) (by decide) (hL (43, 0, 0, 0) ⟨by decide, rfl, rfl, rfl⟩) (by omega) (v := nI (1 + 2 * ob)) o43 dL_isMerged_159 ?_
  refine lv_iconst (v := nI 2) hx hb dL_isMerged_160 (by decide) ?_
  refine n_irem hx hb (by omega) (by omega) (by omega) dL_isMerged_161 ?_
  rw [show (1 + 2 * ob) % 2 = 1 from by omega]
  refine lv_istore (lv' := [(17, .int (nI 1)), (16, .int (nI 1)), (15, .int (bI true)), (14, .int (nI k)), (13, .int (nI gd)), (12, .int (nI gn)), (0, .ref (ad (0, 0, 0, 0))), (1, .ref (ad (35, 0, 0, 0))), (2, .ref (ad (37, 0, 0, 0))), (3, .ref (ad (39, 0, 0, 0))), (4, .ref (ad (43, 0, 0, 0))), (5, .ref (ad (44, 0, 0, 0))), (6, .ref (ad (41, 0, 0, 0))), (7, .ref (ad (42, 0, 0, 0))), (8, .ref (ad (40, 0, 0, 0))), (9, .ref (ad (45, 0, 0, 0))), (10, .int (nI d)), (11, .int (nI o))]) hx hb dL_isMerged_162 hl (by decide) rfl (fun ls hl => ?_)
  refine lv_iload hx hb dL_isMerged_164 (lv_at hl 2 rfl) ?_
  refine b_if_eq (tgt := 196) hx hb dL_isMerged_166 (by decide) (fun c => (Bool.noConfusion c)) (fun _ => ?_)
  refine lv_iload hx hb dL_isMerged_169 (lv_at hl 1 rfl) ?_
  refine lv_iload hx hb dL_isMerged_171 (lv_at hl 0 rfl) ?_
  refine lv_icmp_le (tgt := 196) hx hb dL_isMerged_173 (by decide) (fun _ => ?_) (fun c => absurd c (by decide))
  refine lv_iconst (v := nI 0) hx hb dL_isMerged_196 (by decide) ?_
  refine lv_istore (lv' := [(18, .int (nI 0)), (17, .int (nI 1)), (16, .int (nI 1)), (15, .int (bI true)), (14, .int (nI k)), (13, .int (nI gd)), (12, .int (nI gn)), (0, .ref (ad (0, 0, 0, 0))), (1, .ref (ad (35, 0, 0, 0))), (2, .ref (ad (37, 0, 0, 0))), (3, .ref (ad (39, 0, 0, 0))), (4, .ref (ad (43, 0, 0, 0))), (5, .ref (ad (44, 0, 0, 0))), (6, .ref (ad (41, 0, 0, 0))), (7, .ref (ad (42, 0, 0, 0))), (8, .ref (ad (40, 0, 0, 0))), (9, .ref (ad (45, 0, 0, 0))), (10, .int (nI d)), (11, .int (nI o))]) hx hb dL_isMerged_197 hl (by decide) rfl (fun ls hl => ?_)
  refine lv_iload hx hb dL_isMerged_199 (lv_at hl 3 rfl) ?_
  refine b_if_eq (tgt := 231) hx hb dL_isMerged_201 (by decide) (fun c => (Bool.noConfusion c)) (fun _ => ?_)
  refine lv_iload hx hb dL_isMerged_204 (lv_at hl 1 rfl) ?_
  refine lv_iload hx hb dL_isMerged_206 (lv_at hl 2 rfl) ?_
  refine lv_icmp_le (tgt := 231) hx hb dL_isMerged_208 (by decide) (fun _ => ?_) (fun c => absurd c (by decide))
  refine lv_iconst (v := nI 0) hx hb dL_isMerged_231 (by decide) ?_
  refine lv_istore (lv' := [(19, .int (nI 0)), (18, .int (nI 0)), (17, .int (nI 1)), (16, .int (nI 1)), (15, .int (bI true)), (14, .int (nI k)), (13, .int (nI gd)), (12, .int (nI gn)), (0, .ref (ad (0, 0, 0, 0))), (1, .ref (ad (35, 0, 0, 0))), (2, .ref (ad (37, 0, 0, 0))), (3, .ref (ad (39, 0, 0, 0))), (4, .ref (ad (43, 0, 0, 0))), (5, .ref (ad (44, 0, 0, 0))), (6, .ref (ad (41, 0, 0, 0))), (7, .ref (ad (42, 0, 0, 0))), (8, .ref (ad (40, 0, 0, 0))), (9, .ref (ad (45, 0, 0, 0))), (10, .int (nI d)), (11, .int (nI o))]) hx hb dL_isMerged_232 hl (by decide) rfl (fun ls hl => ?_)
  refine lv_iload hx hb dL_isMerged_234 (lv_at hl 1 rfl) ?_
  refine lv_if_ne (tgt := 244) hx hb dL_isMerged_236 (by decide) (fun c => absurd c (by decide)) (fun _ => ?_)
  refine lv_iload hx hb dL_isMerged_239 (lv_at hl 0 rfl) ?_
  refine lv_if_eq (tgt := 280) hx hb dL_isMerged_241 (by decide) (fun _ => ?_) (fun c => absurd c (by decide))
  refine lv_iload hx hb dL_isMerged_280 (lv_at hl 4 rfl) ?_
  refine b_if_eq (tgt := 319) hx hb dL_isMerged_282 (by decide) (fun c => (Bool.noConfusion c)) (fun _ => ?_)
  refine lv_iload hx hb dL_isMerged_285 (lv_at hl 3 rfl) ?_
  refine lv_iload hx hb dL_isMerged_287 (lv_at hl 2 rfl) ?_
  refine n_iadd hx hb dL_isMerged_289 ?_
  rw [show nI (1 + 1) = nI 2 from rfl]
  refine lv_if_le (tgt := 319) hx hb dL_isMerged_290 (by decide) (fun c => absurd c (by decide)) (fun _ => ?_)
  refine lv_iload hx hb dL_isMerged_293 (lv_at hl 6 rfl) ?_
  refine lv_aload_n hx hb dL_isMerged_295 rfl (lv_at hl 9 rfl) ?_
  refine lv_aload_n hx hb dL_isMerged_296 rfl (lv_at hl 10 rfl) ?_
  refine lv_aload hx hb dL_isMerged_297 (lv_at hl 12 rfl) ?_
  refine lv_aload hx hb dL_isMerged_299 (lv_at hl 13 rfl) ?_
  refine lv_aload hx hb dL_isMerged_301 (lv_at hl 15 rfl) ?_
  refine lv_aload hx hb dL_isMerged_303 (lv_at hl 16 rfl) ?_
  refine lv_aload hx hb dL_isMerged_305 (lv_at hl 17 rfl) ?_
  refine lv_iload hx hb dL_isMerged_307 (lv_at hl 18 rfl) ?_
  refine lv_iload hx hb dL_isMerged_309 (lv_at hl 19 rfl) ?_
  refine lv_iload hx hb dL_isMerged_311 (lv_at hl 5 rfl) ?_
  refine x_doneI X h (x_runS X h (m_L_joins Z hL hW hZ.1 hZ.tr hZ.k01 n m t hN hn2 hm10 ht9 d o k (by omega) (by omega) (by omega) hne _) F_L_joins q784 q785 rfl (Nat.le_trans (by decide) hR1) (Nat.le_trans (by decide) hR2) ⟨hcR, hsR⟩ hl.1 (Nat.le_of_ble_eq_true rfl) dL_isMerged_313 rfl) (fun H locs h => ?_)
  refine n_iadd hx hb dL_isMerged_316 ?_
  refine lv_istore (lv' := [(13, .int (nI (gd + (lgN Z d o k 4)))), (19, .int (nI 0)), (18, .int (nI 0)), (17, .int (nI 1)), (16, .int (nI 1)), (15, .int (bI true)), (14, .int (nI k)), (12, .int (nI gn)), (0, .ref (ad (0, 0, 0, 0))), (1, .ref (ad (35, 0, 0, 0))), (2, .ref (ad (37, 0, 0, 0))), (3, .ref (ad (39, 0, 0, 0))), (4, .ref (ad (43, 0, 0, 0))), (5, .ref (ad (44, 0, 0, 0))), (6, .ref (ad (41, 0, 0, 0))), (7, .ref (ad (42, 0, 0, 0))), (8, .ref (ad (40, 0, 0, 0))), (9, .ref (ad (45, 0, 0, 0))), (10, .int (nI d)), (11, .int (nI o))]) hx hb dL_isMerged_317 hl (by decide) rfl (fun ls hl => ?_)
  exact kk H locs ls h (lv_sub hl [5, 6, 0, 7, 8, 9, 10, 11, 12, 13, 14, 15, 16, 17, 18, 19] rfl)

set_option maxHeartbeats 4000000 in
set_option maxRecDepth 100000 in
theorem sg_e_no (X : Cx p s mth args meth c cL_isMerged yL_isMerged.cls 23 D tc dz A) (hR1 : 12 ≤ R.frames) (hR2 : 400 ≤ R.locals) (hcR : cells ≤ R.cells) (hsR : slots ≤ R.slots) (hL : LV gm Ks) (Z : Mem) (hW : LW gm Ks) (hZ : OKX Z) (n m t : Nat) (hN : NR Z n m t) (hn2 : n ≤ 2) (hm10 : m ≤ 10) (ht9 : t ≤ 2000) (d o k gn gd : Nat) (hd : d < 6) (ho : o < 6) (hk2 : k < 2) (hne : d ≠ o) (h : Sx D A ad Ks (lay tc ad gm dz (LL Z)) s H locs) (hl : lv_has ls 23 [(15, .int (bI false)), (14, .int (nI k)), (13, .int (nI gd)), (12, .int (nI gn)), (0, .ref (ad (0, 0, 0, 0))), (1, .ref (ad (35, 0, 0, 0))), (2, .ref (ad (37, 0, 0, 0))), (3, .ref (ad (39, 0, 0, 0))), (4, .ref (ad (43, 0, 0, 0))), (5, .ref (ad (44, 0, 0, 0))), (6, .ref (ad (41, 0, 0, 0))), (7, .ref (ad (42, 0, 0, 0))), (8, .ref (ad (40, 0, 0, 0))), (9, .ref (ad (45, 0, 0, 0))), (10, .int (nI d)), (11, .int (nI o))])
    (kk : ∀ (H1 : Heap) (locs1 : List Loc) (ls1 : Array Slot), Sx D A ad Ks (lay tc ad gm dz (LL Z)) s H1 locs1 → lv_has ls1 23 [(15, .int (bI false)), (14, .int (nI k)), (13, .int (nI gd)), (12, .int (nI gn)), (0, .ref (ad (0, 0, 0, 0))), (1, .ref (ad (35, 0, 0, 0))), (2, .ref (ad (37, 0, 0, 0))), (3, .ref (ad (39, 0, 0, 0))), (4, .ref (ad (43, 0, 0, 0))), (5, .ref (ad (44, 0, 0, 0))), (6, .ref (ad (41, 0, 0, 0))), (7, .ref (ad (42, 0, 0, 0))), (8, .ref (ad (40, 0, 0, 0))), (9, .ref (ad (45, 0, 0, 0))), (10, .int (nI d)), (11, .int (nI o))] → W p l e R s mth args below meth c H1 locs1 cells slots Q (F0 mth 458 ls1 [])) : W p l e R s mth args below meth c H locs cells slots Q (F0 mth 319 ls []) := by
  obtain ⟨hx, hb, hmaxL, hown, hts⟩ := id X.1
  refine lv_iload hx hb dL_isMerged_319 (lv_at hl 0 rfl) ?_
  refine b_if_eq (tgt := 458) hx hb dL_isMerged_321 (by decide) (fun _ => ?_) (fun c => (Bool.noConfusion c))
  exact kk H locs ls h (lv_sub hl [0, 1, 2, 3, 4, 5, 6, 7, 8, 9, 10, 11, 12, 13, 14, 15] rfl)

set_option maxHeartbeats 4000000 in
set_option maxRecDepth 100000 in
theorem sg_e10 (X : Cx p s mth args meth c cL_isMerged yL_isMerged.cls 23 D tc dz A) (hR1 : 12 ≤ R.frames) (hR2 : 400 ≤ R.locals) (hcR : cells ≤ R.cells) (hsR : slots ≤ R.slots) (hL : LV gm Ks) (Z : Mem) (hW : LW gm Ks) (hZ : OKX Z) (n m t : Nat) (hN : NR Z n m t) (hn2 : n ≤ 2) (hm10 : m ≤ 10) (ht9 : t ≤ 2000) (d o k gn gd : Nat) (hd : d < 6) (ho : o < 6) (hk2 : k < 2) (hne : d ≠ o) (kb ob : Nat) (hkb : kb < 2) (hob : ob < 2) (h43 : LL Z (43, 0, 0, 0) (2 * d + k) = nI (1 + 2 * kb)) (o43 : LL Z (43, 0, 0, 0) (2 * o + k) = nI (0 + 2 * ob)) (h : Sx D A ad Ks (lay tc ad gm dz (LL Z)) s H locs) (hl : lv_has ls 23 [(15, .int (bI true)), (14, .int (nI k)), (13, .int (nI gd)), (12, .int (nI gn)), (0, .ref (ad (0, 0, 0, 0))), (1, .ref (ad (35, 0, 0, 0))), (2, .ref (ad (37, 0, 0, 0))), (3, .ref (ad (39, 0, 0, 0))), (4, .ref (ad (43, 0, 0, 0))), (5, .ref (ad (44, 0, 0, 0))), (6, .ref (ad (41, 0, 0, 0))), (7, .ref (ad (42, 0, 0, 0))), (8, .ref (ad (40, 0, 0, 0))), (9, .ref (ad (45, 0, 0, 0))), (10, .int (nI d)), (11, .int (nI o))])
    (kk : ∀ (H1 : Heap) (locs1 : List Loc) (ls1 : Array Slot), Sx D A ad Ks (lay tc ad gm dz (LL Z)) s H1 locs1 → lv_has ls1 23 [(15, .int (bI true)), (14, .int (nI k)), (13, .int (nI gd)), (12, .int (nI gn)), (0, .ref (ad (0, 0, 0, 0))), (1, .ref (ad (35, 0, 0, 0))), (2, .ref (ad (37, 0, 0, 0))), (3, .ref (ad (39, 0, 0, 0))), (4, .ref (ad (43, 0, 0, 0))), (5, .ref (ad (44, 0, 0, 0))), (6, .ref (ad (41, 0, 0, 0))), (7, .ref (ad (42, 0, 0, 0))), (8, .ref (ad (40, 0, 0, 0))), (9, .ref (ad (45, 0, 0, 0))), (10, .int (nI d)), (11, .int (nI o))] → W p l e R s mth args below meth c H1 locs1 cells slots Q (F0 mth 458 ls1 [])) : W p l e R s mth args below meth c H locs cells slots Q (F0 mth 319 ls []) := by
  obtain ⟨hx, hb, hmaxL, hown, hts⟩ := id X.1
  refine lv_iload hx hb dL_isMerged_319 (lv_at hl 0 rfl) ?_
  refine b_if_eq (tgt := 458) hx hb dL_isMerged_321 (by decide) (fun c => (Bool.noConfusion c)) (fun _ => ?_)
  refine lv_aload hx hb dL_isMerged_324 (lv_at hl 8 rfl) ?_
  refine lv_iconst (v := nI 2) hx hb dL_isMerged_326 (by decide) ?_
  refine lv_iload hx hb dL_isMerged_327 (lv_at hl 14 rfl) ?_
  refine n_imul hx hb dL_isMerged_329 ?_
  refine lv_iload hx hb dL_isMerged_330 (lv_at hl 1 rfl) ?_
  refine n_iadd hx hb dL_isMerged_332 ?_
  refine y_ald X h (fun _ => rfl) (by decide) (hL (43, 0, 0, 0) ⟨by decide, rfl, rfl, rfl⟩) (by omega) (v := nI (1 + 2 * kb)) h43 dL_isMerged_333 ?_
  refine lv_iconst (v := nI 2) hx hb dL_isMerged_334 (by decide) ?_
  refine n_irem hx hb (by omega) (by omega) (by omega) dL_isMerged_335 ?_
  rw [show (1 + 2 * kb) % 2 = 1 from by omega]
  refine lv_aload hx hb dL_isMerged_336 (lv_at hl 8 rfl) ?_
  refine lv_iconst (v := nI 2) hx hb dL_isMerged_338 (by decide) ?_
  refine lv_iload hx hb dL_isMerged_339 (lv_at hl 15 rfl) ?_
  refine n_imul hx hb dL_isMerged_341 ?_
  refine lv_iload hx hb dL_isMerged_342 (lv_at hl 1 rfl) ?_
  refine n_iadd hx hb dL_isMerged_344 ?_
  refine y_ald X h (fun _ => rfl) (by decide) (hL (43, 0, 0, 0) ⟨by decide, rfl, rfl, rfl⟩) (by omega) (v := nI (0 + 2 * ob)) o43 dL_isMerged_345 ?_
  refine lv_iconst (v := nI 2) hx hb dL_isMerged_346 (by decide) ?_
  refine n_irem hx hb (by omega) (by omega) (by omega) dL_isMerged_347 ?_
  rw [show (0 + 2 * ob) % 2 = 0 from by omega]
  refine n_iadd hx hb dL_isMerged_348 ?_
  rw [show nI (1 + 0) = nI 1 from rfl]
  refine lv_if_ne (tgt := 458) hx hb dL_isMerged_349 (by decide) (fun _ => ?_) (fun c => absurd c (by decide))
  exact kk H locs ls h (lv_sub hl [0, 1, 2, 3, 4, 5, 6, 7, 8, 9, 10, 11, 12, 13, 14, 15] rfl)

set_option maxHeartbeats 4000000 in
set_option maxRecDepth 100000 in
theorem sg_e01 (X : Cx p s mth args meth c cL_isMerged yL_isMerged.cls 23 D tc dz A) (hR1 : 12 ≤ R.frames) (hR2 : 400 ≤ R.locals) (hcR : cells ≤ R.cells) (hsR : slots ≤ R.slots) (hL : LV gm Ks) (Z : Mem) (hW : LW gm Ks) (hZ : OKX Z) (n m t : Nat) (hN : NR Z n m t) (hn2 : n ≤ 2) (hm10 : m ≤ 10) (ht9 : t ≤ 2000) (d o k gn gd : Nat) (hd : d < 6) (ho : o < 6) (hk2 : k < 2) (hne : d ≠ o) (kb ob : Nat) (hkb : kb < 2) (hob : ob < 2) (h43 : LL Z (43, 0, 0, 0) (2 * d + k) = nI (0 + 2 * kb)) (o43 : LL Z (43, 0, 0, 0) (2 * o + k) = nI (1 + 2 * ob)) (h : Sx D A ad Ks (lay tc ad gm dz (LL Z)) s H locs) (hl : lv_has ls 23 [(15, .int (bI true)), (14, .int (nI k)), (13, .int (nI gd)), (12, .int (nI gn)), (0, .ref (ad (0, 0, 0, 0))), (1, .ref (ad (35, 0, 0, 0))), (2, .ref (ad (37, 0, 0, 0))), (3, .ref (ad (39, 0, 0, 0))), (4, .ref (ad (43, 0, 0, 0))), (5, .ref (ad (44, 0, 0, 0))), (6, .ref (ad (41, 0, 0, 0))), (7, .ref (ad (42, 0, 0, 0))), (8, .ref (ad (40, 0, 0, 0))), (9, .ref (ad (45, 0, 0, 0))), (10, .int (nI d)), (11, .int (nI o))])
    (kk : ∀ (H1 : Heap) (locs1 : List Loc) (ls1 : Array Slot), Sx D A ad Ks (lay tc ad gm dz (LL Z)) s H1 locs1 → lv_has ls1 23 [(15, .int (bI true)), (14, .int (nI k)), (13, .int (nI gd)), (12, .int (nI gn)), (0, .ref (ad (0, 0, 0, 0))), (1, .ref (ad (35, 0, 0, 0))), (2, .ref (ad (37, 0, 0, 0))), (3, .ref (ad (39, 0, 0, 0))), (4, .ref (ad (43, 0, 0, 0))), (5, .ref (ad (44, 0, 0, 0))), (6, .ref (ad (41, 0, 0, 0))), (7, .ref (ad (42, 0, 0, 0))), (8, .ref (ad (40, 0, 0, 0))), (9, .ref (ad (45, 0, 0, 0))), (10, .int (nI d)), (11, .int (nI o))] → W p l e R s mth args below meth c H1 locs1 cells slots Q (F0 mth 458 ls1 [])) : W p l e R s mth args below meth c H locs cells slots Q (F0 mth 319 ls []) := by
  obtain ⟨hx, hb, hmaxL, hown, hts⟩ := id X.1
  refine lv_iload hx hb dL_isMerged_319 (lv_at hl 0 rfl) ?_
  refine b_if_eq (tgt := 458) hx hb dL_isMerged_321 (by decide) (fun c => (Bool.noConfusion c)) (fun _ => ?_)
  refine lv_aload hx hb dL_isMerged_324 (lv_at hl 8 rfl) ?_
  refine lv_iconst (v := nI 2) hx hb dL_isMerged_326 (by decide) ?_
  refine lv_iload hx hb dL_isMerged_327 (lv_at hl 14 rfl) ?_
  refine n_imul hx hb dL_isMerged_329 ?_
  refine lv_iload hx hb dL_isMerged_330 (lv_at hl 1 rfl) ?_
  refine n_iadd hx hb dL_isMerged_332 ?_
  refine y_ald X h (fun _ => rfl) (by decide) (hL (43, 0, 0, 0) ⟨by decide, rfl, rfl, rfl⟩) (by omega) (v := nI (0 + 2 * kb)) h43 dL_isMerged_333 ?_
  refine lv_iconst (v := nI 2) hx hb dL_isMerged_334 (by decide) ?_
  refine n_irem hx hb (by omega) (by omega) (by omega) dL_isMerged_335 ?_
  rw [show (0 + 2 * kb) % 2 = 0 from by omega]
  refine lv_aload hx hb dL_isMerged_336 (lv_at hl 8 rfl) ?_
  refine lv_iconst (v := nI 2) hx hb dL_isMerged_338 (by decide) ?_
  refine lv_iload hx hb dL_isMerged_339 (lv_at hl 15 rfl) ?_
  refine n_imul hx hb dL_isMerged_341 ?_
  refine lv_iload hx hb dL_isMerged_342 (lv_at hl 1 rfl) ?_
  refine n_iadd hx hb dL_isMerged_344 ?_
  refine y_ald X h (fun _ => rfl) (by decide) (hL (43, 0, 0, 0) ⟨by decide, rfl, rfl, rfl⟩) (by omega) (v := nI (1 + 2 * ob)) o43 dL_isMerged_345 ?_
  refine lv_iconst (v := nI 2) hx hb dL_isMerged_346 (by decide) ?_
  refine n_irem hx hb (by omega) (by omega) (by omega) dL_isMerged_347 ?_
  rw [show (1 + 2 * ob) % 2 = 1 from by omega]
  refine n_iadd hx hb dL_isMerged_348 ?_
  rw [show nI (0 + 1) = nI 1 from rfl]
  refine lv_if_ne (tgt := 458) hx hb dL_isMerged_349 (by decide) (fun _ => ?_) (fun c => absurd c (by decide))
  exact kk H locs ls h (lv_sub hl [0, 1, 2, 3, 4, 5, 6, 7, 8, 9, 10, 11, 12, 13, 14, 15] rfl)

set_option maxHeartbeats 4000000 in
set_option maxRecDepth 100000 in
theorem sg_e11 (X : Cx p s mth args meth c cL_isMerged yL_isMerged.cls 23 D tc dz A) (hR1 : 12 ≤ R.frames) (hR2 : 400 ≤ R.locals) (hcR : cells ≤ R.cells) (hsR : slots ≤ R.slots) (hL : LV gm Ks) (Z : Mem) (hW : LW gm Ks) (hZ : OKX Z) (n m t : Nat) (hN : NR Z n m t) (hn2 : n ≤ 2) (hm10 : m ≤ 10) (ht9 : t ≤ 2000) (d o k gn gd : Nat) (hd : d < 6) (ho : o < 6) (hk2 : k < 2) (hne : d ≠ o) (kb ob : Nat) (hkb : kb < 2) (hob : ob < 2) (h43 : LL Z (43, 0, 0, 0) (2 * d + k) = nI (1 + 2 * kb)) (o43 : LL Z (43, 0, 0, 0) (2 * o + k) = nI (1 + 2 * ob)) (h : Sx D A ad Ks (lay tc ad gm dz (LL Z)) s H locs) (hl : lv_has ls 23 [(15, .int (bI true)), (14, .int (nI k)), (13, .int (nI gd)), (12, .int (nI gn)), (0, .ref (ad (0, 0, 0, 0))), (1, .ref (ad (35, 0, 0, 0))), (2, .ref (ad (37, 0, 0, 0))), (3, .ref (ad (39, 0, 0, 0))), (4, .ref (ad (43, 0, 0, 0))), (5, .ref (ad (44, 0, 0, 0))), (6, .ref (ad (41, 0, 0, 0))), (7, .ref (ad (42, 0, 0, 0))), (8, .ref (ad (40, 0, 0, 0))), (9, .ref (ad (45, 0, 0, 0))), (10, .int (nI d)), (11, .int (nI o))])
    (kk : ∀ (H1 : Heap) (locs1 : List Loc) (ls1 : Array Slot), Sx D A ad Ks (lay tc ad gm dz (LL Z)) s H1 locs1 → lv_has ls1 23 [(15, .int (bI true)), (14, .int (nI k)), (13, .int (nI gd)), (12, .int (nI gn)), (0, .ref (ad (0, 0, 0, 0))), (1, .ref (ad (35, 0, 0, 0))), (2, .ref (ad (37, 0, 0, 0))), (3, .ref (ad (39, 0, 0, 0))), (4, .ref (ad (43, 0, 0, 0))), (5, .ref (ad (44, 0, 0, 0))), (6, .ref (ad (41, 0, 0, 0))), (7, .ref (ad (42, 0, 0, 0))), (8, .ref (ad (40, 0, 0, 0))), (9, .ref (ad (45, 0, 0, 0))), (10, .int (nI d)), (11, .int (nI o))] → W p l e R s mth args below meth c H1 locs1 cells slots Q (F0 mth 458 ls1 [])) : W p l e R s mth args below meth c H locs cells slots Q (F0 mth 319 ls []) := by
  obtain ⟨hx, hb, hmaxL, hown, hts⟩ := id X.1
  refine lv_iload hx hb dL_isMerged_319 (lv_at hl 0 rfl) ?_
  refine b_if_eq (tgt := 458) hx hb dL_isMerged_321 (by decide) (fun c => (Bool.noConfusion c)) (fun _ => ?_)
  refine lv_aload hx hb dL_isMerged_324 (lv_at hl 8 rfl) ?_
  refine lv_iconst (v := nI 2) hx hb dL_isMerged_326 (by decide) ?_
  refine lv_iload hx hb dL_isMerged_327 (lv_at hl 14 rfl) ?_
  refine n_imul hx hb dL_isMerged_329 ?_
  refine lv_iload hx hb dL_isMerged_330 (lv_at hl 1 rfl) ?_
  refine n_iadd hx hb dL_isMerged_332 ?_
  refine y_ald X h (fun _ => rfl) (by decide) (hL (43, 0, 0, 0) ⟨by decide, rfl, rfl, rfl⟩) (by omega) (v := nI (1 + 2 * kb)) h43 dL_isMerged_333 ?_
  refine lv_iconst (v := nI 2) hx hb dL_isMerged_334 (by decide) ?_
  refine n_irem hx hb (by omega) (by omega) (by omega) dL_isMerged_335 ?_
  rw [show (1 + 2 * kb) % 2 = 1 from by omega]
  refine lv_aload hx hb dL_isMerged_336 (lv_at hl 8 rfl) ?_
  refine lv_iconst (v := nI 2) hx hb dL_isMerged_338 (by decide) ?_
  refine lv_iload hx hb dL_isMerged_339 (lv_at hl 15 rfl) ?_
  refine n_imul hx hb dL_isMerged_341 ?_
  refine lv_iload hx hb dL_isMerged_342 (lv_at hl 1 rfl) ?_
  refine n_iadd hx hb dL_isMerged_344 ?_
  refine y_ald X h (fun _ => rfl) (by decide) (hL (43, 0, 0, 0) ⟨by decide, rfl, rfl, rfl⟩) (by omega) (v := nI (1 + 2 * ob)) o43 dL_isMerged_345 ?_
  refine lv_iconst (v := nI 2) hx hb dL_isMerged_346 (by decide) ?_
  refine n_irem hx hb (by omega) (by omega) (by omega) dL_isMerged_347 ?_
  rw [show (1 + 2 * ob) % 2 = 1 from by omega]
  refine n_iadd hx hb dL_isMerged_348 ?_
  rw [show nI (1 + 1) = nI 2 from rfl]
  refine lv_if_ne (tgt := 458) hx hb dL_isMerged_349 (by decide) (fun _ => ?_) (fun c => absurd c (by decide))
  exact kk H locs ls h (lv_sub hl [0, 1, 2, 3, 4, 5, 6, 7, 8, 9, 10, 11, 12, 13, 14, 15] rfl)

set_option maxHeartbeats 4000000 in
set_option maxRecDepth 100000 in
theorem sg_e00n (X : Cx p s mth args meth c cL_isMerged yL_isMerged.cls 23 D tc dz A) (hR1 : 12 ≤ R.frames) (hR2 : 400 ≤ R.locals) (hcR : cells ≤ R.cells) (hsR : slots ≤ R.slots) (hL : LV gm Ks) (Z : Mem) (hW : LW gm Ks) (hZ : OKX Z) (n m t : Nat) (hN : NR Z n m t) (hn2 : n ≤ 2) (hm10 : m ≤ 10) (ht9 : t ≤ 2000) (d o k gn gd : Nat) (hd : d < 6) (ho : o < 6) (hk2 : k < 2) (hne : d ≠ o) (kb ob : Nat) (hkb : kb < 2) (hob : ob < 2) (h43 : LL Z (43, 0, 0, 0) (2 * d + k) = nI (0 + 2 * kb)) (o43 : LL Z (43, 0, 0, 0) (2 * o + k) = nI (0 + 2 * ob)) (hz : kb = 0 ∧ ob = 0) (h : Sx D A ad Ks (lay tc ad gm dz (LL Z)) s H locs) (hl : lv_has ls 23 [(15, .int (bI true)), (14, .int (nI k)), (13, .int (nI gd)), (12, .int (nI gn)), (0, .ref (ad (0, 0, 0, 0))), (1, .ref (ad (35, 0, 0, 0))), (2, .ref (ad (37, 0, 0, 0))), (3, .ref (ad (39, 0, 0, 0))), (4, .ref (ad (43, 0, 0, 0))), (5, .ref (ad (44, 0, 0, 0))), (6, .ref (ad (41, 0, 0, 0))), (7, .ref (ad (42, 0, 0, 0))), (8, .ref (ad (40, 0, 0, 0))), (9, .ref (ad (45, 0, 0, 0))), (10, .int (nI d)), (11, .int (nI o))])
    (kk : ∀ (H1 : Heap) (locs1 : List Loc) (ls1 : Array Slot), Sx D A ad Ks (lay tc ad gm dz (LL Z)) s H1 locs1 → lv_has ls1 23 [(15, .int (bI true)), (14, .int (nI k)), (13, .int (nI gd)), (12, .int (nI gn)), (0, .ref (ad (0, 0, 0, 0))), (1, .ref (ad (35, 0, 0, 0))), (2, .ref (ad (37, 0, 0, 0))), (3, .ref (ad (39, 0, 0, 0))), (4, .ref (ad (43, 0, 0, 0))), (5, .ref (ad (44, 0, 0, 0))), (6, .ref (ad (41, 0, 0, 0))), (7, .ref (ad (42, 0, 0, 0))), (8, .ref (ad (40, 0, 0, 0))), (9, .ref (ad (45, 0, 0, 0))), (10, .int (nI d)), (11, .int (nI o))] → W p l e R s mth args below meth c H1 locs1 cells slots Q (F0 mth 458 ls1 [])) : W p l e R s mth args below meth c H locs cells slots Q (F0 mth 319 ls []) := by
  obtain ⟨hx, hb, hmaxL, hown, hts⟩ := id X.1
  refine lv_iload hx hb dL_isMerged_319 (lv_at hl 0 rfl) ?_
  refine b_if_eq (tgt := 458) hx hb dL_isMerged_321 (by decide) (fun c => (Bool.noConfusion c)) (fun _ => ?_)
  refine lv_aload hx hb dL_isMerged_324 (lv_at hl 8 rfl) ?_
  refine lv_iconst (v := nI 2) hx hb dL_isMerged_326 (by decide) ?_
  refine lv_iload hx hb dL_isMerged_327 (lv_at hl 14 rfl) ?_
  refine n_imul hx hb dL_isMerged_329 ?_
  refine lv_iload hx hb dL_isMerged_330 (lv_at hl 1 rfl) ?_
  refine n_iadd hx hb dL_isMerged_332 ?_
  refine y_ald X h (fun _ => rfl) (by decide) (hL (43, 0, 0, 0) ⟨by decide, rfl, rfl, rfl⟩) (by omega) (v := nI (0 + 2 * kb)) h43 dL_isMerged_333 ?_
  refine lv_iconst (v := nI 2) hx hb dL_isMerged_334 (by decide) ?_
  refine n_irem hx hb (by omega) (by omega) (by omega) dL_isMerged_335 ?_
  rw [show (0 + 2 * kb) % 2 = 0 from by omega]
  refine lv_aload hx hb dL_isMerged_336 (lv_at hl 8 rfl) ?_
  refine lv_iconst (v := nI 2) hx hb dL_isMerged_338 (by decide) ?_
  refine lv_iload hx hb dL_isMerged_339 (lv_at hl 15 rfl) ?_
  refine n_imul hx hb dL_isMerged_341 ?_
  refine lv_iload hx hb dL_isMerged_342 (lv_at hl 1 rfl) ?_
  refine n_iadd hx hb dL_isMerged_344 ?_
  refine y_ald X h (fun _ => rfl) (by decide) (hL (43, 0, 0, 0) ⟨by decide, rfl, rfl, rfl⟩) (by omega) (v := nI (0 + 2 * ob)) o43 dL_isMerged_345 ?_
  refine lv_iconst (v := nI 2) hx hb dL_isMerged_346 (by decide) ?_
  refine n_irem hx hb (by omega) (by omega) (by omega) dL_isMerged_347 ?_
  rw [show (0 + 2 * ob) % 2 = 0 from by omega]
  refine n_iadd hx hb dL_isMerged_348 ?_
  rw [show nI (0 + 0) = nI 0 from rfl]
  refine lv_if_ne (tgt := 458) hx hb dL_isMerged_349 (by decide) (fun c => absurd c (by decide)) (fun _ => ?_)
  refine lv_aload hx hb dL_isMerged_352 (lv_at hl 8 rfl) ?_
  refine lv_iconst (v := nI 2) hx hb dL_isMerged_354 (by decide) ?_
  refine lv_iload hx hb dL_isMerged_355 (lv_at hl 14 rfl) ?_
  refine n_imul hx hb dL_isMerged_357 ?_
  refine lv_iload hx hb dL_isMerged_358 (lv_at hl 1 rfl) ?_
  refine n_iadd hx hb dL_isMerged_360 ?_
  refine y_ald X h (fun _ => rfl) (by decide) (hL (43, 0, 0, 0) ⟨by decide, rfl, rfl, rfl⟩) (by omega) (v := nI (0 + 2 * kb)) h43 dL_isMerged_361 ?_
  refine lv_aload hx hb dL_isMerged_362 (lv_at hl 8 rfl) ?_
  refine lv_iconst (v := nI 2) hx hb dL_isMerged_364 (by decide) ?_
  refine lv_iload hx hb dL_isMerged_365 (lv_at hl 15 rfl) ?_
  refine n_imul hx hb dL_isMerged_367 ?_
  refine lv_iload hx hb dL_isMerged_368 (lv_at hl 1 rfl) ?_
  refine n_iadd hx hb dL_isMerged_370 ?_
  refine y_ald X h (fun _ => rfl) (by decide) (hL (43, 0, 0, 0) ⟨by decide, rfl, rfl, rfl⟩) (by omega) (v := nI (0 + 2 * ob)) o43 dL_isMerged_371 ?_
  refine n_iadd hx hb dL_isMerged_372 ?_
  refine lv_if_le (tgt := 458) hx hb dL_isMerged_373 (by decide) (fun _ => ?_) (fun c => absurd (n_gt0 (a := (0 + 2 * kb) + (0 + 2 * ob)) (by omega) c) (by omega))
  exact kk H locs ls h (lv_sub hl [0, 1, 2, 3, 4, 5, 6, 7, 8, 9, 10, 11, 12, 13, 14, 15] rfl)

set_option maxHeartbeats 4000000 in
set_option maxRecDepth 100000 in
theorem sg_e00y (X : Cx p s mth args meth c cL_isMerged yL_isMerged.cls 23 D tc dz A) (hR1 : 12 ≤ R.frames) (hR2 : 400 ≤ R.locals) (hcR : cells ≤ R.cells) (hsR : slots ≤ R.slots) (hL : LV gm Ks) (Z : Mem) (hW : LW gm Ks) (hZ : OKX Z) (n m t : Nat) (hN : NR Z n m t) (hn2 : n ≤ 2) (hm10 : m ≤ 10) (ht9 : t ≤ 2000) (d o k gn gd : Nat) (hd : d < 6) (ho : o < 6) (hk2 : k < 2) (hne : d ≠ o) (kb ob : Nat) (hkb : kb < 2) (hob : ob < 2) (h43 : LL Z (43, 0, 0, 0) (2 * d + k) = nI (0 + 2 * kb)) (o43 : LL Z (43, 0, 0, 0) (2 * o + k) = nI (0 + 2 * ob)) (hz : 0 < kb + ob) (h34 : Z (34, 0, 0, 0) (10 * d + k) = nI 0) (o34 : Z (34, 0, 0, 0) (10 * o + k) = nI 0) (hnt : ntH Z d o k = true) (h : Sx D A ad Ks (lay tc ad gm dz (LL Z)) s H locs) (hl : lv_has ls 23 [(15, .int (bI true)), (14, .int (nI k)), (13, .int (nI gd)), (12, .int (nI gn)), (0, .ref (ad (0, 0, 0, 0))), (1, .ref (ad (35, 0, 0, 0))), (2, .ref (ad (37, 0, 0, 0))), (3, .ref (ad (39, 0, 0, 0))), (4, .ref (ad (43, 0, 0, 0))), (5, .ref (ad (44, 0, 0, 0))), (6, .ref (ad (41, 0, 0, 0))), (7, .ref (ad (42, 0, 0, 0))), (8, .ref (ad (40, 0, 0, 0))), (9, .ref (ad (45, 0, 0, 0))), (10, .int (nI d)), (11, .int (nI o))])
    (kk : ∀ (H1 : Heap) (locs1 : List Loc) (ls1 : Array Slot), Sx D A ad Ks (lay tc ad gm dz (LL (notM Z d o k))) s H1 locs1 → lv_has ls1 23 [(15, .int (bI true)), (14, .int (nI k)), (13, .int (nI gd)), (12, .int (nI gn)), (0, .ref (ad (0, 0, 0, 0))), (1, .ref (ad (35, 0, 0, 0))), (2, .ref (ad (37, 0, 0, 0))), (3, .ref (ad (39, 0, 0, 0))), (4, .ref (ad (43, 0, 0, 0))), (5, .ref (ad (44, 0, 0, 0))), (6, .ref (ad (41, 0, 0, 0))), (7, .ref (ad (42, 0, 0, 0))), (8, .ref (ad (40, 0, 0, 0))), (9, .ref (ad (45, 0, 0, 0))), (10, .int (nI d)), (11, .int (nI o))] → W p l e R s mth args below meth c H1 locs1 cells slots Q (F0 mth 458 ls1 [])) : W p l e R s mth args below meth c H locs cells slots Q (F0 mth 319 ls []) := by
  obtain ⟨hx, hb, hmaxL, hown, hts⟩ := id X.1
  refine lv_iload hx hb dL_isMerged_319 (lv_at hl 0 rfl) ?_
  refine b_if_eq (tgt := 458) hx hb dL_isMerged_321 (by decide) (fun c => (Bool.noConfusion c)) (fun _ => ?_)
  refine lv_aload hx hb dL_isMerged_324 (lv_at hl 8 rfl) ?_
  refine lv_iconst (v := nI 2) hx hb dL_isMerged_326 (by decide) ?_
  refine lv_iload hx hb dL_isMerged_327 (lv_at hl 14 rfl) ?_
  refine n_imul hx hb dL_isMerged_329 ?_
  refine lv_iload hx hb dL_isMerged_330 (lv_at hl 1 rfl) ?_
  refine n_iadd hx hb dL_isMerged_332 ?_
  refine y_ald X h (fun _ => rfl) (by decide) (hL (43, 0, 0, 0) ⟨by decide, rfl, rfl, rfl⟩) (by omega) (v := nI (0 + 2 * kb)) h43 dL_isMerged_333 ?_
  refine lv_iconst (v := nI 2) hx hb dL_isMerged_334 (by decide) ?_
  refine n_irem hx hb (by omega) (by omega) (by omega) dL_isMerged_335 ?_
  rw [show (0 + 2 * kb) % 2 = 0 from by omega]
  refine lv_aload hx hb dL_isMerged_336 (lv_at hl 8 rfl) ?_
  refine lv_iconst (v := nI 2) hx hb dL_isMerged_338 (by decide) ?_
  refine lv_iload hx hb dL_isMerged_339 (lv_at hl 15 rfl) ?_
  refine n_imul hx hb dL_isMerged_341 ?_
  refine lv_iload hx hb dL_isMerged_342 (lv_at hl 1 rfl) ?_
  refine n_iadd hx hb dL_isMerged_344 ?_
  refine y_ald X h (fun _ => rfl) (by decide) (hL (43, 0, 0, 0) ⟨by decide, rfl, rfl, rfl⟩) (by omega) (v := nI (0 + 2 * ob)) o43 dL_isMerged_345 ?_
  refine lv_iconst (v := nI 2) hx hb dL_isMerged_346 (by decide) ?_
  refine n_irem hx hb (by omega) (by omega) (by omega) dL_isMerged_347 ?_
  rw [show (0 + 2 * ob) % 2 = 0 from by omega]
  refine n_iadd hx hb dL_isMerged_348 ?_
  rw [show nI (0 + 0) = nI 0 from rfl]
  refine lv_if_ne (tgt := 458) hx hb dL_isMerged_349 (by decide) (fun c => absurd c (by decide)) (fun _ => ?_)
  refine lv_aload hx hb dL_isMerged_352 (lv_at hl 8 rfl) ?_
  refine lv_iconst (v := nI 2) hx hb dL_isMerged_354 (by decide) ?_
  refine lv_iload hx hb dL_isMerged_355 (lv_at hl 14 rfl) ?_
  refine n_imul hx hb dL_isMerged_357 ?_
  refine lv_iload hx hb dL_isMerged_358 (lv_at hl 1 rfl) ?_
  refine n_iadd hx hb dL_isMerged_360 ?_
  refine y_ald X h (fun _ => rfl) (by decide) (hL (43, 0, 0, 0) ⟨by decide, rfl, rfl, rfl⟩) (by omega) (v := nI (0 + 2 * kb)) h43 dL_isMerged_361 ?_
  refine lv_aload hx hb dL_isMerged_362 (lv_at hl 8 rfl) ?_
  refine lv_iconst (v := nI 2) hx hb dL_isMerged_364 (by decide) ?_
  refine lv_iload hx hb dL_isMerged_365 (lv_at hl 15 rfl) ?_
  refine n_imul hx hb dL_isMerged_367 ?_
  refine lv_iload hx hb dL_isMerged_368 (lv_at hl 1 rfl) ?_
  refine n_iadd hx hb dL_isMerged_370 ?_
  refine y_ald X h (fun _ => rfl) (by decide) (hL (43, 0, 0, 0) ⟨by decide, rfl, rfl, rfl⟩) (by omega) (v := nI (0 + 2 * ob)) o43 dL_isMerged_371 ?_
  refine n_iadd hx hb dL_isMerged_372 ?_
  refine lv_if_le (tgt := 458) hx hb dL_isMerged_373 (by decide) (fun c => absurd (show 0 < (0 + 2 * kb) + (0 + 2 * ob) by omega) (n_le0 (by omega) c)) (fun _ => ?_)
  refine lv_iconst (v := nI 0) hx hb dL_isMerged_376 (by decide) ?_
  refine lv_istore (lv' := [(20, .int (nI 0)), (15, .int (bI true)), (14, .int (nI k)), (13, .int (nI gd)), (12, .int (nI gn)), (0, .ref (ad (0, 0, 0, 0))), (1, .ref (ad (35, 0, 0, 0))), (2, .ref (ad (37, 0, 0, 0))), (3, .ref (ad (39, 0, 0, 0))), (4, .ref (ad (43, 0, 0, 0))), (5, .ref (ad (44, 0, 0, 0))), (6, .ref (ad (41, 0, 0, 0))), (7, .ref (ad (42, 0, 0, 0))), (8, .ref (ad (40, 0, 0, 0))), (9, .ref (ad (45, 0, 0, 0))), (10, .int (nI d)), (11, .int (nI o))]) hx hb dL_isMerged_377 hl (by decide) rfl (fun ls hl => ?_)
  refine y_loop (D := D) (A := A) (ad := ad) (Ks := Ks) (nL := 23) (fun f : Nat => lay tc ad gm dz (sset (LL Z) (39, 0, 0, 0) (ntN Z d o k (6 * f)))) (fun f => [(20, .int (nI f)), (15, .int (bI true)), (14, .int (nI k)), (13, .int (nI gd)), (12, .int (nI gn)), (0, .ref (ad (0, 0, 0, 0))), (1, .ref (ad (35, 0, 0, 0))), (2, .ref (ad (37, 0, 0, 0))), (3, .ref (ad (39, 0, 0, 0))), (4, .ref (ad (43, 0, 0, 0))), (5, .ref (ad (44, 0, 0, 0))), (6, .ref (ad (41, 0, 0, 0))), (7, .ref (ad (42, 0, 0, 0))), (8, .ref (ad (40, 0, 0, 0))), (9, .ref (ad (45, 0, 0, 0))), (10, .int (nI d)), (11, .int (nI o))]) (fun _ => []) (fun f : Nat => f ≤ 4) (fun f => 4 - f) (fun f hi379 ih379 H locs ls h hl => ?_) 0 (Nat.zero_le _) (h.eq (congrArg (lay tc ad gm dz) (NM_0 Z d o k))) (lv_sub hl [0, 1, 2, 3, 4, 5, 6, 7, 8, 9, 10, 11, 12, 13, 14, 15, 16] rfl) rfl
  have h : Sx D A ad Ks (lay tc ad gm dz (sset (LL Z) (39, 0, 0, 0) (ntN Z d o k (6 * f)))) s H locs := h
  have hl : lv_has ls 23 [(20, .int (nI f)), (15, .int (bI true)), (14, .int (nI k)), (13, .int (nI gd)), (12, .int (nI gn)), (0, .ref (ad (0, 0, 0, 0))), (1, .ref (ad (35, 0, 0, 0))), (2, .ref (ad (37, 0, 0, 0))), (3, .ref (ad (39, 0, 0, 0))), (4, .ref (ad (43, 0, 0, 0))), (5, .ref (ad (44, 0, 0, 0))), (6, .ref (ad (41, 0, 0, 0))), (7, .ref (ad (42, 0, 0, 0))), (8, .ref (ad (40, 0, 0, 0))), (9, .ref (ad (45, 0, 0, 0))), (10, .int (nI d)), (11, .int (nI o))] := hl
  refine lv_iload hx hb dL_isMerged_379 (lv_at hl 0 rfl) ?_
  refine lv_iconst (v := nI 4) hx hb dL_isMerged_381 (by decide) ?_
  refine n_icmp_ge (tgt := 436) hx hb (by omega) (by omega) dL_isMerged_382 (by decide) (fun c_382 => ?_) (fun c_382 => ?_)
  · skip
    have him : f = 4 := by omega
    rw [him] at h
    refine lv_aload hx hb dL_isMerged_436 (lv_at hl 9 rfl) ?_
    refine lv_iconst (v := nI 2) hx hb dL_isMerged_438 (by decide) ?_
    refine lv_iload hx hb dL_isMerged_439 (lv_at hl 15 rfl) ?_
    refine n_imul hx hb dL_isMerged_441 ?_
    refine lv_iload hx hb dL_isMerged_442 (lv_at hl 2 rfl) ?_
    refine n_iadd hx hb dL_isMerged_444 ?_
    refine lv_iconst (v := nI 2) hx hb dL_isMerged_445 (by decide) ?_
    refine y_ast X h (fun _ => rfl) (by decide) (hL (43, 0, 0, 0) ⟨by decide, rfl, rfl, rfl⟩) (by omega) dL_isMerged_446 (fun H locs h => ?_)
    refine lv_aload hx hb dL_isMerged_447 (lv_at hl 9 rfl) ?_
    refine lv_iconst (v := nI 2) hx hb dL_isMerged_449 (by decide) ?_
    refine lv_iload hx hb dL_isMerged_450 (lv_at hl 16 rfl) ?_
    refine n_imul hx hb dL_isMerged_452 ?_
    refine lv_iload hx hb dL_isMerged_453 (lv_at hl 2 rfl) ?_
    refine n_iadd hx hb dL_isMerged_455 ?_
    refine lv_iconst (v := nI 2) hx hb dL_isMerged_456 (by decide) ?_
    refine y_ast X h (fun _ => rfl) (by decide) (hL (43, 0, 0, 0) ⟨by decide, rfl, rfl, rfl⟩) (by omega) dL_isMerged_457 (fun H locs h => ?_)
    exact kk H locs ls (h.law hW (not_LAe hd ho hk2 hne h34 o34 hnt)) (lv_sub hl [1, 2, 3, 4, 5, 6, 7, 8, 9, 10, 11, 12, 13, 14, 15, 16] rfl)
  · skip
    refine lv_iload hx hb dL_isMerged_385 (lv_at hl 15 rfl) ?_
    refine lv_iload hx hb dL_isMerged_387 (lv_at hl 2 rfl) ?_
    refine lv_iload hx hb dL_isMerged_389 (lv_at hl 0 rfl) ?_
    refine x_doneI X h (x_runS X h (m_L_at (sset (LL Z) (39, 0, 0, 0) (ntN Z d o k (6 * f))) d k f _) F_L_at q744 q745 rfl (Nat.le_trans (by decide) hR1) (Nat.le_trans (by decide) hR2) ⟨hcR, hsR⟩ hl.1 (Nat.le_of_ble_eq_true rfl) dL_isMerged_391 rfl) (fun H locs h => ?_)
    refine lv_istore (lv' := [(21, .int (nI (8 * d + 4 * k + f))), (20, .int (nI f)), (15, .int (bI true)), (14, .int (nI k)), (13, .int (nI gd)), (12, .int (nI gn)), (0, .ref (ad (0, 0, 0, 0))), (1, .ref (ad (35, 0, 0, 0))), (2, .ref (ad (37, 0, 0, 0))), (3, .ref (ad (39, 0, 0, 0))), (4, .ref (ad (43, 0, 0, 0))), (5, .ref (ad (44, 0, 0, 0))), (6, .ref (ad (41, 0, 0, 0))), (7, .ref (ad (42, 0, 0, 0))), (8, .ref (ad (40, 0, 0, 0))), (9, .ref (ad (45, 0, 0, 0))), (10, .int (nI d)), (11, .int (nI o))]) hx hb dL_isMerged_394 hl (by decide) rfl (fun ls hl => ?_)
    refine lv_iload hx hb dL_isMerged_396 (lv_at hl 17 rfl) ?_
    refine lv_iload hx hb dL_isMerged_398 (lv_at hl 3 rfl) ?_
    refine lv_iload hx hb dL_isMerged_400 (lv_at hl 1 rfl) ?_
    refine x_doneI X h (x_runS X h (m_L_at (sset (LL Z) (39, 0, 0, 0) (ntN Z d o k (6 * f))) o k f _) F_L_at q744 q745 rfl (Nat.le_trans (by decide) hR1) (Nat.le_trans (by decide) hR2) ⟨hcR, hsR⟩ hl.1 (Nat.le_of_ble_eq_true rfl) dL_isMerged_402 rfl) (fun H locs h => ?_)
    refine lv_istore (lv' := [(22, .int (nI (8 * o + 4 * k + f))), (21, .int (nI (8 * d + 4 * k + f))), (20, .int (nI f)), (15, .int (bI true)), (14, .int (nI k)), (13, .int (nI gd)), (12, .int (nI gn)), (0, .ref (ad (0, 0, 0, 0))), (1, .ref (ad (35, 0, 0, 0))), (2, .ref (ad (37, 0, 0, 0))), (3, .ref (ad (39, 0, 0, 0))), (4, .ref (ad (43, 0, 0, 0))), (5, .ref (ad (44, 0, 0, 0))), (6, .ref (ad (41, 0, 0, 0))), (7, .ref (ad (42, 0, 0, 0))), (8, .ref (ad (40, 0, 0, 0))), (9, .ref (ad (45, 0, 0, 0))), (10, .int (nI d)), (11, .int (nI o))]) hx hb dL_isMerged_405 hl (by decide) rfl (fun ls hl => ?_)
    refine lv_aload_n hx hb dL_isMerged_407 rfl (lv_at hl 10 rfl) ?_
    refine lv_iload hx hb dL_isMerged_408 (lv_at hl 1 rfl) ?_
    refine lv_aload_n hx hb dL_isMerged_410 rfl (lv_at hl 10 rfl) ?_
    refine lv_iload hx hb dL_isMerged_411 (lv_at hl 1 rfl) ?_
    refine z_lald X h pkB (fun _ => rfl) (by decide) (hL (39, 0, 0, 0) ⟨by decide, rfl, rfl, rfl⟩) (by omega) (v := pk (rw6 (Z (39, 0, 0, 0)) (24 * (10 * d + k) + 6 * f))) ((pkB_at (by omega) (by omega)).trans (lp_congr (fun j hj => (congrFun (sset_eq _ _ _) _).trans (NM_at hk2 hne (by omega) hj).1))) dL_isMerged_413 ?_
    refine lv_aload_n hx hb dL_isMerged_414 rfl (lv_at hl 10 rfl) ?_
    refine lv_iload hx hb dL_isMerged_415 (lv_at hl 0 rfl) ?_
    refine z_lald X h pkB (fun _ => rfl) (by decide) (hL (39, 0, 0, 0) ⟨by decide, rfl, rfl, rfl⟩) (by omega) (v := pk (rw6 (Z (39, 0, 0, 0)) (24 * (10 * o + k) + 6 * f))) ((pkB_at (by omega) (by omega)).trans (lp_congr (fun j hj => (congrFun (sset_eq _ _ _) _).trans (NM_at hk2 hne (by omega) hj).2))) dL_isMerged_417 ?_
    refine x_doneL X h (x_runS X h (m_L_greater (sset (LL Z) (39, 0, 0, 0) (ntN Z d o k (6 * f))) (rw6 (Z (39, 0, 0, 0)) (24 * (10 * d + k) + 6 * f)) (rw6 (Z (39, 0, 0, 0)) (24 * (10 * o + k) + 6 * f)) (fun _ _ => hZ.1.2.2.1 _) (fun _ _ => hZ.1.2.2.1 _) _) F_L_greater q772 q773 rfl (Nat.le_trans (by decide) hR1) (Nat.le_trans (by decide) hR2) ⟨hcR, hsR⟩ hl.1 (Nat.le_of_ble_eq_true rfl) dL_isMerged_418 rfl) (fun H locs h => ?_)
    refine z_last X h pkB (fun _ => rfl) (by decide) (hL (39, 0, 0, 0) ⟨by decide, rfl, rfl, rfl⟩) (by omega) (st6 ((sset (LL Z) (39, 0, 0, 0) (ntN Z d o k (6 * f))) (39, 0, 0, 0)) (24 * (10 * d + k) + 6 * f) (gM (rw6 (Z (39, 0, 0, 0)) (24 * (10 * d + k) + 6 * f)) (rw6 (Z (39, 0, 0, 0)) (24 * (10 * o + k) + 6 * f)))) (lastB (by omega) (by omega)) dL_isMerged_421 (fun H locs h => ?_)
    refine lv_aload_n hx hb dL_isMerged_422 rfl (lv_at hl 10 rfl) ?_
    refine lv_iload hx hb dL_isMerged_423 (lv_at hl 0 rfl) ?_
    refine lv_aload_n hx hb dL_isMerged_425 rfl (lv_at hl 10 rfl) ?_
    refine lv_iload hx hb dL_isMerged_426 (lv_at hl 1 rfl) ?_
    refine z_lald X h pkB (fun _ => rfl) (by decide) (hL (39, 0, 0, 0) ⟨by decide, rfl, rfl, rfl⟩) (by omega) (v := pk (gM (rw6 (Z (39, 0, 0, 0)) (24 * (10 * d + k) + 6 * f)) (rw6 (Z (39, 0, 0, 0)) (24 * (10 * o + k) + 6 * f)))) ((pkB_at (by omega) (by omega)).trans (lp_congr (fun j hj => (congrFun (sset_eq _ _ _) _).trans (st6_in hj)))) dL_isMerged_428 ?_
    refine z_last X h pkB (fun _ => rfl) (by decide) (hL (39, 0, 0, 0) ⟨by decide, rfl, rfl, rfl⟩) (by omega) (st6 ((sset (sset (LL Z) (39, 0, 0, 0) (ntN Z d o k (6 * f))) (39, 0, 0, 0) (st6 ((sset (LL Z) (39, 0, 0, 0) (ntN Z d o k (6 * f))) (39, 0, 0, 0)) (24 * (10 * d + k) + 6 * f) (gM (rw6 (Z (39, 0, 0, 0)) (24 * (10 * d + k) + 6 * f)) (rw6 (Z (39, 0, 0, 0)) (24 * (10 * o + k) + 6 * f))))) (39, 0, 0, 0)) (24 * (10 * o + k) + 6 * f) (gM (rw6 (Z (39, 0, 0, 0)) (24 * (10 * d + k) + 6 * f)) (rw6 (Z (39, 0, 0, 0)) (24 * (10 * o + k) + 6 * f)))) (lastB (by omega) (by omega)) dL_isMerged_429 (fun H locs h => ?_)
    have h := h.eq (congrArg (lay tc ad gm dz) (show (sset (sset (sset (LL Z) (39, 0, 0, 0) (ntN Z d o k (6 * f))) (39, 0, 0, 0) (st6 ((sset (LL Z) (39, 0, 0, 0) (ntN Z d o k (6 * f))) (39, 0, 0, 0)) (24 * (10 * d + k) + 6 * f) (gM (rw6 (Z (39, 0, 0, 0)) (24 * (10 * d + k) + 6 * f)) (rw6 (Z (39, 0, 0, 0)) (24 * (10 * o + k) + 6 * f))))) (39, 0, 0, 0) (st6 ((sset (sset (LL Z) (39, 0, 0, 0) (ntN Z d o k (6 * f))) (39, 0, 0, 0) (st6 ((sset (LL Z) (39, 0, 0, 0) (ntN Z d o k (6 * f))) (39, 0, 0, 0)) (24 * (10 * d + k) + 6 * f) (gM (rw6 (Z (39, 0, 0, 0)) (24 * (10 * d + k) + 6 * f)) (rw6 (Z (39, 0, 0, 0)) (24 * (10 * o + k) + 6 * f))))) (39, 0, 0, 0)) (24 * (10 * o + k) + 6 * f) (gM (rw6 (Z (39, 0, 0, 0)) (24 * (10 * d + k) + 6 * f)) (rw6 (Z (39, 0, 0, 0)) (24 * (10 * o + k) + 6 * f))))) = (sset (LL Z) (39, 0, 0, 0) (ntN Z d o k (6 * (f + 1)))) from (NM_s hk2 hne (by omega))))
    refine n_iinc (j := f) (n := 1) (lv' := [(20, .int (nI (f + 1))), (22, .int (nI (8 * o + 4 * k + f))), (21, .int (nI (8 * d + 4 * k + f))), (15, .int (bI true)), (14, .int (nI k)), (13, .int (nI gd)), (12, .int (nI gn)), (0, .ref (ad (0, 0, 0, 0))), (1, .ref (ad (35, 0, 0, 0))), (2, .ref (ad (37, 0, 0, 0))), (3, .ref (ad (39, 0, 0, 0))), (4, .ref (ad (43, 0, 0, 0))), (5, .ref (ad (44, 0, 0, 0))), (6, .ref (ad (41, 0, 0, 0))), (7, .ref (ad (42, 0, 0, 0))), (8, .ref (ad (40, 0, 0, 0))), (9, .ref (ad (45, 0, 0, 0))), (10, .int (nI d)), (11, .int (nI o))]) hx hb dL_isMerged_430 hl (k := 2) rfl (by decide) (by decide) rfl (fun ls hl => ?_)
    refine lv_goto (tgt := 379) hx hb dL_isMerged_433 (by decide) ?_
    exact ih379 (f + 1) (by omega) (by omega) H locs ls (h.eq (congrArg (lay tc ad gm dz) rfl)) (lv_sub hl [0, 3, 4, 5, 6, 7, 8, 9, 10, 11, 12, 13, 14, 15, 16, 17, 18] rfl)

end SEGS
