/-! the law, put together -/
section SEGS
variable {p : Program} {l : Launch} {e : Env} {R : Room} {s : State} {mth : MethodId} {args : Array Value} {below : List Frame} {meth : Method} {c : Code} {H : Heap} {locs : List Loc} {cells slots : Nat} {Q : State → Prop}
variable {D : va_G} {tc : TC} {dz : Nat} {A : Nat → Prop} {ad : KN → Nat} {Ks : List KN} {gm : GM} {ls : Array Slot}
set_option maxHeartbeats 4000000 in
set_option maxRecDepth 100000 in
theorem lw_devs (X : Cx p s mth args meth c cL_law yL_law.cls 14 D tc dz A) (hR1 : 15 ≤ R.frames) (hR2 : 525 ≤ R.locals) (hst : l.stackTraces = false) (b : Nat) (cj cn : Nat) (hcj : cj < 58) (hcn : cn < 59) (CT ST : Nat) (hCT : CT ≤ R.cells) (hST : ST ≤ R.slots) : ∀ (x dd : Nat) (ad : KN → Nat) (Ks : List KN) (gm : GM) (Z : Mem) (H : Heap) (locs : List Loc) (ls : Array Slot) (cells slots : Nat), dd + x = 6 → NY cn gm Ks Z → cells + 8 * x + va 102 (cj % 6) dd ≤ CT → slots + 48 * x + va 42232 (cj % 6) dd ≤ ST → Sx D A ad Ks (lay tc ad gm dz (LL Z)) s H locs → lv_has ls 14 [(13, .int (nI dd)), (12, .int (nI cj)), (11, .int (bI true)), (0, .ref b), (1, .ref (ad (0, 0, 0, 0))), (2, .ref (ad (35, 0, 0, 0))), (3, .ref (ad (37, 0, 0, 0))), (4, .ref (ad (39, 0, 0, 0))), (5, .ref (ad (43, 0, 0, 0))), (6, .ref (ad (44, 0, 0, 0))), (7, .ref (ad (41, 0, 0, 0))), (8, .ref (ad (42, 0, 0, 0))), (9, .ref (ad (40, 0, 0, 0))), (10, .ref (ad (45, 0, 0, 0)))] →
    (∀ (ad1 : KN → Nat) (Ks1 : List KN) (gm1 : GM) (Z1 : Mem) (H1 : Heap) (locs1 : List Loc) (ls1 : Array Slot), NY cn gm1 Ks1 Z1 → Sx D A ad1 Ks1 (lay tc ad1 gm1 dz (LL Z1)) s H1 locs1 → lv_has ls1 14 [(12, .int (nI (cj + 1))), (11, .int (bI true)), (0, .ref b), (1, .ref (ad1 (0, 0, 0, 0))), (2, .ref (ad1 (35, 0, 0, 0))), (3, .ref (ad1 (37, 0, 0, 0))), (4, .ref (ad1 (39, 0, 0, 0))), (5, .ref (ad1 (43, 0, 0, 0))), (6, .ref (ad1 (44, 0, 0, 0))), (7, .ref (ad1 (41, 0, 0, 0))), (8, .ref (ad1 (42, 0, 0, 0))), (9, .ref (ad1 (40, 0, 0, 0))), (10, .ref (ad1 (45, 0, 0, 0)))] → W p l e R s mth args below meth c H1 locs1 CT ST Q (F0 mth 104 ls1 [])) → W p l e R s mth args below meth c H locs cells slots Q (F0 mth 198 ls []) := by
  intro x
  induction x with
  | zero =>
    intro dd ad Ks gm Z H locs ls cells slots hx hNY hc1 hs1 h hl kk
    have e : dd = 6 := hx
    subst e
    obtain ⟨hL, hW, hG2, V, acts, z, n, m, t, ac, mcs, hS⟩ := id hNY
    refine lw_3 X hR1 hR2 (by omega) (by omega) hL hst hW hG2 Z V acts z n m t ac mcs cn hS hcn b cj hcj h hl (fun H locs ls h hl => ?_)
    exact W.widen (k := CT) (n := ST) (by omega) (by omega) (kk ad Ks gm Z H locs ls hNY h hl)
  | succ x ih =>
    intro dd ad Ks gm Z H locs ls cells slots hx hNY hc1 hs1 h hl kk
    obtain ⟨hL, hW, hG2, V, acts, z, n, m, t, ac, mcs, hS⟩ := id hNY
    by_cases hfd : dd = cj % 6
    · have v1 := va_eq (v := 102) (fd := cj % 6) (q := dd) (q2 := dd + 1) hfd (by omega) rfl
      have v2 := va_eq (v := 42232) (fd := cj % 6) (q := dd) (q2 := dd + 1) hfd (by omega) rfl
      refine lw_dA X hR1 hR2 (by omega) (by omega) hL hst hW hG2 Z V acts z n m t ac mcs cn hS hcn b cj hcj dd (by omega) hfd h hl (fun ad1 Ks1 gm1 Z1 H locs ls hNY1 hAE h hl => ?_)
      exact ih (dd + 1) ad1 Ks1 gm1 Z1 H locs ls _ _ (by omega) hNY1 (by omega) (by omega) h hl kk
    · have v1 := va_le (v := 102) (fd := cj % 6) (q := dd) (q2 := dd + 1) (by omega)
      have v2 := va_le (v := 42232) (fd := cj % 6) (q := dd) (q2 := dd + 1) (by omega)
      refine lw_dB X hR1 hR2 (by omega) (by omega) hL hst hW hG2 Z V acts z n m t ac mcs cn hS hcn b cj hcj dd (by omega) hfd h hl (fun ad1 Ks1 gm1 Z1 H locs ls hNY1 hAE h hl => ?_)
      exact ih (dd + 1) ad1 Ks1 gm1 Z1 H locs ls _ _ (by omega) hNY1 (by omega) (by omega) h hl kk

set_option maxHeartbeats 4000000 in
set_option maxRecDepth 100000 in
theorem lw_all (X : Cx p s mth args meth c cL_law yL_law.cls 14 D tc dz A) (hR1 : 15 ≤ R.frames) (hR2 : 525 ≤ R.locals) (hst : l.stackTraces = false) (b : Nat) (L : Nat) (xs : Nat → Int32) (hXS : XS A b L xs s) (hL60 : L ≤ 260) (CT ST : Nat) (hCT : CT ≤ R.cells) (hST : ST ≤ R.slots) (kk : ∀ (ad1 : KN → Nat) (Ks1 : List KN) (gm1 : GM) (Z1 : Mem) (H1 : Heap) (locs1 : List Loc) (ls1 : Array Slot), Sx D A ad1 Ks1 (lay tc ad1 gm1 dz (LL Z1)) s H1 locs1 → W p l e R s mth args below meth c H1 locs1 CT ST Q (F0 mth 418 ls1 [.int 1])) : ∀ (x cj : Nat) (ad : KN → Nat) (Ks : List KN) (gm : GM) (Z : Mem) (H : Heap) (locs : List Loc) (ls : Array Slot) (cells slots : Nat), cj + x = 58 → NY cj gm Ks Z → cells + 155 * x + 9 ≤ CT → slots + 42583 * x + 54 ≤ ST → Sx D A ad Ks (lay tc ad gm dz (LL Z)) s H locs → lv_has ls 14 [(12, .int (nI cj)), (11, .int (bI true)), (0, .ref b), (1, .ref (ad (0, 0, 0, 0))), (2, .ref (ad (35, 0, 0, 0))), (3, .ref (ad (37, 0, 0, 0))), (4, .ref (ad (39, 0, 0, 0))), (5, .ref (ad (43, 0, 0, 0))), (6, .ref (ad (44, 0, 0, 0))), (7, .ref (ad (41, 0, 0, 0))), (8, .ref (ad (42, 0, 0, 0))), (9, .ref (ad (40, 0, 0, 0))), (10, .ref (ad (45, 0, 0, 0)))] → W p l e R s mth args below meth c H locs cells slots Q (F0 mth 104 ls []) := by
  intro x
  induction x with
  | zero =>
    intro cj ad Ks gm Z H locs ls cells slots hx hNY hc1 hs1 h hl
    have e : cj = 58 := hx
    subst e
    obtain ⟨hL, hW, hG2, V, acts, z, n, m, t, ac, mcs, hS⟩ := hNY
    refine lw_4 X hR1 hR2 (by omega) (by omega) hL hst hW hG2 Z V acts z n m t ac mcs 58 hS (by decide) b h hl (fun H locs ls h => ?_)
    exact W.widen (k := CT) (n := ST) (by omega) (by omega) (kk ad Ks gm Z H locs ls h)
  | succ x ih =>
    intro cj ad Ks gm Z H locs ls cells slots hx hNY hc1 hs1 h hl
    obtain ⟨hL, hW, hG2, V, acts, z, n, m, t, ac, mcs, hS⟩ := hNY
    have hcj : cj < 58 := by omega
    have v1 : va 102 (cj % 6) 0 ≤ 102 := by unfold va; split <;> omega
    have v2 : va 42232 (cj % 6) 0 ≤ 42232 := by unfold va; split <;> omega
    refine lw_1 X hR1 hR2 (by omega) (by omega) hL hst hW hG2 Z V acts z n m t ac mcs cj hS (by omega) b hcj L xs hXS hL60 cj hcj h hl (fun ad1 Ks1 gm1 Z1 H locs ls hNY1 hAE h hl => ?_)
    obtain ⟨hL, hW, hG2, V, acts, z, n, m, t, ac, mcs, hS⟩ := id hNY1
    refine lw_2 X hR1 hR2 (by omega) (by omega) hL hst hW hG2 Z1 V acts z n m t ac mcs (cj + 1) hS (by omega) b L xs hXS hL60 cj hcj h hl (fun H locs ls h hl => ?_)
    refine lw_devs X hR1 hR2 hst b cj (cj + 1) hcj (by omega) (cells + 155) (slots + 42583) (by omega) (by omega) 6 0 ad1 Ks1 gm1 Z1 H locs ls _ _ rfl hNY1 (by omega) (by omega) h hl (fun ad2 Ks2 gm2 Z2 H locs ls hNY2 h hl => ?_)
    exact ih (cj + 1) ad2 Ks2 gm2 Z2 H locs ls _ _ (by omega) hNY2 (by omega) (by omega) h hl

end SEGS

theorem ll_zM : zM = LL zM := by
  funext k
  unfold LL
  by_cases q45 : k = (45, 0, 0, 0)
  · rw [q45, sset_eq]
    funext x
    unfold gcode
    show (0 : Int32) = if x = 0 then 0 else if x = 1 then 0 else if x = 2 then 0 else 0
    split <;> (try split) <;> (try split) <;> rfl
  · rw [sset_ne _ _ q45]
    by_cases q44 : k = (44, 0, 0, 0)
    · rw [q44, sset_eq]
      funext x
      unfold wcode
      show (0 : Int32) = if x % 4 = 0 then 0 else 0
      split <;> rfl
    · rw [sset_ne _ _ q44]
      by_cases q43 : k = (43, 0, 0, 0)
      · rw [q43, sset_eq]
        funext x
        unfold kcode
        show (0 : Int32) = 0 + nI 2 * 0
        decide
      · rw [sset_ne _ _ q43]
theorem lws_zero : LWS zM gz0 (fun _ => (zM, 0, fun _ => 0)) (fun _ => (0, 0, 0, 0, 0)) 0 0 0 0 (fun _ => 0) (fun _ => 0) 0 := by
  refine ⟨⟨rel_L rel_zero (fun _ _ _ _ _ _ h => absurd rfl h), ⟨rfl, fun _ h => absurd h (Nat.not_lt_zero _)⟩, ⟨rfl, fun _ h => absurd h (Nat.not_lt_zero _)⟩, ⟨fun _ _ _ _ => rfl, fun _ _ => rfl⟩, rfl, fun _ => rfl, fun _ => Nat.le_refl 0, Nat.le_refl 0, Nat.le_refl 0, Nat.le_refl 0, fun _ => Nat.le_refl 0, ?_⟩, ⟨⟨fun _ => sm6_0, fun _ => sm6_0, fun _ => sm6_0, fun _ => sm6_0⟩, fun _ => TB_0, fun _ => ⟨0, by decide, rfl⟩, fun _ => ⟨0, by decide, rfl⟩, 0, by decide, rfl⟩, by decide, by decide⟩
  exact Nat.le_of_eq (sumN_zero 10)
theorem pkB_0 : (fun _ : Nat => (0 : Int64)) = fun j => pkB (fun _ => 0) j := funext fun _ => lp_zero.symm
theorem pkA_0 : (fun _ : Nat => (0 : Int64)) = fun j => pkA (fun _ => 0) j := funext fun _ => lp_zero.symm
