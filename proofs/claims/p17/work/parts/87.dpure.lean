/-! a device looked at: what it needs of numbers and of worlds -/
/-- the places of the law's names and of the object -/
def AEq (ad ad1 : KN → Nat) : Prop := ∀ j, (j = 0 ∨ j = 35 ∨ j = 37 ∨ (39 ≤ j ∧ j ≤ 45)) → ad1 (j, 0, 0, 0) = ad (j, 0, 0, 0)
theorem AEq.refl (ad : KN → Nat) : AEq ad ad := fun _ _ => rfl
theorem AEq.trans {a b c : KN → Nat} (h : AEq a b) (h2 : AEq b c) : AEq a c := fun j hj => (h2 j hj).trans (h j hj)
/-- a world behind another: the second books anew, all else as it was -/
def NX (V : Nat → BS) (acts : Nat → Act) (z n m t : Nat) (ac mcs : Nat → Nat) (cn : Nat) (Y : Mem) (Ks1 : List KN) (gm1 : GM) (Z : Mem) : Prop :=
  LV gm1 Ks1 ∧ LW gm1 Ks1 ∧ GM2 gm1 ∧ LWS Z gm1 V acts z n m t ac mcs cn ∧ ∀ k, k < 43 → Z (k, 0, 0, 0) = Y (k, 0, 0, 0)
theorem cg_mst {Z Y : Mem} (h : ∀ k, k < 43 → Z (k, 0, 0, 0) = Y (k, 0, 0, 0)) (d k m : Nat) : mstR Z d k m = mstR Y d k m := by
  have e34 := h 34 (by decide)
  have e35 := h 35 (by decide)
  have e40 := h 40 (by decide)
  have e41 := h 41 (by decide)
  have e42 := h 42 (by decide)
  have hc : cnA Z d k 4 = cnA Y d k 4 := by
    simp only [cnA, cnF, e35]
  have hv : cvt Z d k m = cvt Y d k m := by
    unfold cvt
    have e : cvQ Z d k = cvQ Y d k := by
      funext j
      unfold cvQ mo kmk cvm
      have e2 : cvP Z j d k = cvP Y j d k := by
        funext c
        unfold cvP
        rw [e41, e35]
      rw [e2, e40, e42]
    rw [e]
  have ht : thr Z d k m = thr Y d k m := by
    unfold thr
    rw [e34, hc, hv]
  unfold mstR
  rw [e34, ht, hv]
theorem cg_thr {Z Y : Mem} (h : ∀ k, k < 43 → Z (k, 0, 0, 0) = Y (k, 0, 0, 0)) (d k m : Nat) : thr Z d k m = thr Y d k m := by
  rw [← mst_thr, ← mst_thr, cg_mst h]
theorem cg_cnF {Z Y : Mem} (h : ∀ k, k < 43 → Z (k, 0, 0, 0) = Y (k, 0, 0, 0)) (d k f : Nat) : cnF Z d k f = cnF Y d k f := by
  unfold cnF
  rw [h 35 (by decide)]
theorem cg_mclE {Z Y : Mem} (h : ∀ k, k < 43 → Z (k, 0, 0, 0) = Y (k, 0, 0, 0)) (d k m : Nat) : ∀ f, mclE Z d k m f = mclE Y d k m f
  | 0 => rfl
  | f + 1 => by rw [mclE, mclE, cg_mclE h d k m f, cg_thr h, cg_cnF h]
theorem cg_mclN {Z Y : Mem} (h : ∀ k, k < 43 → Z (k, 0, 0, 0) = Y (k, 0, 0, 0)) (d m : Nat) : ∀ k, mclN Z d m k = mclN Y d m k
  | 0 => rfl
  | k + 1 => by rw [mclN, mclN, cg_mclN h d m k, cg_mclE h]
/-- the value at a place, by the values ahead of it -/
theorem vF_at {A T : Nat → Int32} {f o : Nat} (ho : o < 6) (hn : nz (A (f * 6 + o)) = true) : ∀ x k, k + x = o → vFrom A T f (6 - k) k (cntN (fun i => nz (A (f * 6 + (k + i)))) x) = T (f * 6 + o)
  | 0, k, hk => by
    have e : k = o := hk
    subst e
    exact vF_y0 hn ho rfl
  | x + 1, k, hk => by
    have e := cntN_add (fun i => nz (A (f * 6 + (k + i)))) 1 x
    have e2 : cntN (fun i => nz (A (f * 6 + (k + (1 + i))))) x = cntN (fun i => nz (A (f * 6 + (k + 1 + i)))) x := cntN_congr (fun i _ => by rw [Nat.add_assoc])
    rw [Nat.add_comm 1 x] at e
    have ih := vF_at (T := T) ho hn x (k + 1) (by omega)
    cases hq : nz (A (f * 6 + k)) with
    | false =>
      have e1 : cntN (fun i => nz (A (f * 6 + (k + i)))) 1 = 0 := by
        rw [cntN, cntN, Nat.add_zero, hq]; rfl
      rw [e, e1, Nat.zero_add, vF_n hq (by omega), e2]
      exact ih
    | true =>
      have e1 : cntN (fun i => nz (A (f * 6 + (k + i)))) 1 = 1 := by
        rw [cntN, cntN, Nat.add_zero, hq]; rfl
      rw [e, e1, vF_y1 hq (by omega) (by omega), e2, show 1 + cntN (fun i => nz (A (f * 6 + (k + 1 + i)))) x - 1 = cntN (fun i => nz (A (f * 6 + (k + 1 + i)))) x by omega]
      exact ih
/-- the values ahead of a place, by the law's row -/
def mnu (u : Nat → Int32) (o : Nat) : Nat := cntN (fun i => decide (0 < u i)) o
theorem mnu_le (u : Nat → Int32) (o : Nat) : mnu u o ≤ o := cntN_le _ _
section DV
variable {I J : Mem} {ac : Nat → Nat} {e d : Nat}
theorem dv_nz (h : Cp I J Lw ac e d) {f i : Nat} (hf : f < 4) (hi : i < 6) : nz (I (10, 0, e, d) (f * 6 + i)) = decide (0 < rw6 (J (35, 0, 0, 0)) (24 * (10 * d + e) + 6 * f) i) := by
  rw [nz_pos (h.av _ (by omega)).1, h.ac_ _ (by omega)]
  unfold cl
  rw [show 24 * (10 * d + e) + (f * 6 + i) = 24 * (10 * d + e) + 6 * f + i by omega]
theorem dv_mn (h : Cp I J Lw ac e d) {f o : Nat} (hf : f < 4) (ho : o ≤ 6) : cntN (fun i => nz (I (10, 0, e, d) (f * 6 + (0 + i)))) o = mnu (rw6 (J (35, 0, 0, 0)) (24 * (10 * d + e) + 6 * f)) o :=
  cntN_congr (fun i hi => by rw [Nat.zero_add, dv_nz h hf (by omega)])
theorem dv_val (h : Cp I J Lw ac e d) {f o b : Nat} (hf : f < 4) (ho : o < 6) (hb : rw6 (J (35, 0, 0, 0)) (24 * (10 * d + e) + 6 * f) o = nI b) (hb0 : 0 < b) (hb6 : b < 64) : vFrom (I (10, 0, e, d)) (I (11, 0, e, d)) f 6 0 (mnu (rw6 (J (35, 0, 0, 0)) (24 * (10 * d + e) + 6 * f)) o) = nI ((100 * o + 37 * b) % 1000) := by
  have e1 : I (10, 0, e, d) (f * 6 + o) = nI b := by
    rw [h.ac_ _ (by omega), ← hb]
    unfold cl
    rw [show 24 * (10 * d + e) + (f * 6 + o) = 24 * (10 * d + e) + 6 * f + o by omega]
  have hz : I (10, 0, e, d) (f * 6 + o) ≠ 0 := fun q => by
    rw [e1] at q
    have := nI_inj (b := 0) (by omega) (by decide) q
    omega
  have hn : nz (I (10, 0, e, d) (f * 6 + o)) = true := by unfold nz; exact if_neg hz
  have k := vF_at (T := I (11, 0, e, d)) ho hn o 0 (Nat.zero_add o)
  rw [dv_mn h hf (Nat.le_of_lt ho)] at k
  rw [show 6 - 0 = 6 from rfl] at k
  rw [k, h.to _ (by omega) hz, e1]
  unfold Lw
  rw [i_nI (by omega), show (f * 6 + o) % 6 = o by omega]
  rfl
theorem dv_lt (h : Cp I J Lw ac e d) {f o : Nat} (hf : f < 4) (ho : o < 6) (hu : 0 < rw6 (J (35, 0, 0, 0)) (24 * (10 * d + e) + 6 * f) o) : mnu (rw6 (J (35, 0, 0, 0)) (24 * (10 * d + e) + 6 * f)) o < cvF (I (10, 0, e, d)) f := by
  rw [rl_cnF h hf]
  exact cnt_lt (p := fun i => decide (0 < rw6 (J (35, 0, 0, 0)) (24 * (10 * d + e) + 6 * f) i)) ho (decide_eq_true hu)
theorem dv_se (h : Cp I J Lw ac e d) {f o : Nat} (hf : f < 4) (ho : o < 6) : I (13, 0, e, d) (f * 6 + o) = rw6 (J (37, 0, 0, 0)) (24 * (10 * d + e) + 6 * f) o := by
  rw [h.se _ (by omega)]
  unfold cl
  rw [show 24 * (10 * d + e) + (f * 6 + o) = 24 * (10 * d + e) + 6 * f + o by omega]
end DV
/-- not more marks in all than the reference counts -/
theorem sum_mo (J : Mem) : ∀ m, sumN (fun e => cntN (mo J e) m) 10 ≤ m
  | 0 => by
    have : ∀ k, sumN (fun e => cntN (mo J e) 0) k = 0 := fun k => by
      induction k with
      | zero => rfl
      | succ k ih => rw [sumN, ih]; rfl
    rw [this]
    exact Nat.le_refl 0
  | m + 1 => by
    have ih := sum_mo J m
    by_cases q : ∃ e0, e0 < 10 ∧ J (40, 0, 0, 0) m = nI e0
    · obtain ⟨e0, h0, he⟩ := q
      have a := sum_le (f := fun e => cntN (mo J e) (m + 1)) (g := mup (fun e => cntN (mo J e) m) e0) (k := 10) (fun j hj => by
        by_cases w : j = e0
        · subst w
          rw [mup_eq]
          show cntN (mo J j) (m + 1) ≤ _
          rw [cntN]
          split <;> omega
        · rw [mup_ne w]
          show cntN (mo J j) (m + 1) ≤ _
          rw [cntN, if_neg (fun z => w ?_)]
          · exact Nat.le_refl _
          · have z := mo_one z
            rw [he] at z
            exact (nI_inj (by omega) (by omega) z).symm)
      have b := sum_mup (mcs := fun e => cntN (mo J e) m) (e := e0) (k := 10)
      split at b <;> omega
    · have a := sum_le (f := fun e => cntN (mo J e) (m + 1)) (g := fun e => cntN (mo J e) m) (k := 10) (fun j hj => by
        show cntN (mo J j) (m + 1) ≤ _
        rw [cntN, if_neg (fun z => q ⟨j, hj, mo_one z⟩)]
        exact Nat.le_refl _)
      omega
section NXS
variable {V : Nat → BS} {acts : Nat → Act} {z n m t : Nat} {ac mcs : Nat → Nat} {cn : Nat} {Y Z : Mem} {Ks : List KN} {gm : GM}
theorem lws_need (h : LWS Z gm V acts z n m t ac mcs cn) (g : Nat → Nat) : need g mcs 10 ≤ 10 := by
  have a := need_le (g := g) (m := mcs) 10
  have b := sum_le (f := mcs) (g := fun e => cntN (mo Z e) m) (k := 10) (fun e he => Nat.le_of_eq (h.1.1.mk.ct e he))
  have c := sum_mo Z m
  have d := h.2.2.2
  omega
/-- the second books written anew -/
theorem nx_anew (h : LWS Z gm V acts z n m t ac mcs cn) {ad ad1 : KN → Nat} {Ks1 : List KN} {gm1 : GM} {I1 : Mem} (hL : LV gm Ks) (hRS : RS V (zerM (LL Z)) gm ad Ks z ad1 Ks1 gm1 I1) (hZ : ∀ k, k < 43 → Z (k, 0, 0, 0) = Y (k, 0, 0, 0)) : I1 = LL I1 ∧ NX V acts z n m t ac mcs cn Y Ks1 gm1 I1 ∧ AEq ad ad1 := by
  obtain ⟨r1, r2, r3, r4, r5, r6, r7⟩ := hRS
  obtain ⟨⟨h1, h2, h3, h4, h5, h6, h7, h8, h9, h10, h11, h12⟩, hok, hn2, hm⟩ := h
  have h20 : ∀ k : KN, 20 ≤ k.1 → I1 k = LL Z k := fun k hk => (r1.2 k (Or.inr (Or.inl hk))).trans (zer_ne (fun z => by have := z.2; omega))
  have q : ∀ k : KN, k.2.1 ≠ 1 → k.1 < 43 → I1 k = Z k := fun k hk hk2 => ((r1.2 k (Or.inl hk)).trans (zer_ne (fun z => hk z.1))).trans (LL_see hk2)
  have q0 : ∀ k, k < 43 → I1 (k, 0, 0, 0) = Z (k, 0, 0, 0) := fun k hk => q _ (by show (0 : Nat) ≠ 1; decide) hk
  have hb : I1 = LL I1 := ll_back (G := Z) (fun k hk => h20 k (by omega))
  refine ⟨hb, ⟨r5, r6, r2, ⟨⟨?_, ?_, h3, ?_, h5, fun e => ?_, fun e => ?_, h8, h9, h10, h11, h12⟩, okx_of hok (fun k hk => q0 k (by omega)) (by rw [q0 30 (by decide)]), hn2, hm⟩, fun k hk => (q0 k hk).trans (hZ k hk)⟩, fun j hj => ?_⟩
  · exact rel_congr h1 (fun k e d hk => q _ (by show (0 : Nat) ≠ 1; decide) (by show k < 43; omega)) (fun j _ => by rw [q0 30 (by decide)]) (fun k _ hk => q0 k (by omega))
  · unfold JR
    rw [q0 20 (by decide), q0 21 (by decide), q0 22 (by decide), q0 23 (by decide), q0 24 (by decide), q0 25 (by decide)]
    exact h2
  · exact ⟨fun k e d hk => (q _ (by show (0 : Nat) ≠ 1; decide) (by show k < 43; rcases hk with w | w <;> omega)).trans (h4.1 k e d hk), fun _ _ => rfl⟩
  · rw [r3 0 e (by decide)]; exact h6 e
  · rw [r4 e, h5]
    exact Nat.max_le.mpr ⟨h7 e, Nat.le_refl _⟩
  · have hk : ∀ i : KN, i ∈ Ks → i.1 ≠ 8 → ad1 i = ad i := r7
    rcases (show j = 0 ∨ j = 35 ∨ j = 37 ∨ j = 39 ∨ j = 40 ∨ j = 41 ∨ j = 42 ∨ j = 43 ∨ j = 44 ∨ j = 45 by omega) with rfl | rfl | rfl | rfl | rfl | rfl | rfl | rfl | rfl | rfl
    · exact hk _ (hL (0, 0, 0, 0) ⟨rfl, rfl, rfl⟩) (by decide)
    · exact hk _ (hL (35, 0, 0, 0) ⟨by decide, rfl, rfl, rfl⟩) (by decide)
    · exact hk _ (hL (37, 0, 0, 0) ⟨by decide, rfl, rfl, rfl⟩) (by decide)
    · exact hk _ (hL (39, 0, 0, 0) ⟨by decide, rfl, rfl, rfl⟩) (by decide)
    · exact hk _ (hL (40, 0, 0, 0) ⟨by decide, rfl, rfl, rfl⟩) (by decide)
    · exact hk _ (hL (41, 0, 0, 0) ⟨by decide, rfl, rfl, rfl⟩) (by decide)
    · exact hk _ (hL (42, 0, 0, 0) ⟨by decide, rfl, rfl, rfl⟩) (by decide)
    · exact hk _ (hL (43, 0, 0, 0) ⟨by decide, rfl, rfl, rfl⟩) (by decide)
    · exact hk _ (hL (44, 0, 0, 0) ⟨by decide, rfl, rfl, rfl⟩) (by decide)
    · exact hk _ (hL (45, 0, 0, 0) ⟨by decide, rfl, rfl, rfl⟩) (by decide)
end NXS
