/-! forgetting, as the law does it -/
theorem st6_congr {r : Nat → Int32} {b : Nat} {u v : Nat → Int32} (h : ∀ k, k < 6 → u k = v k) : st6 r b u = st6 r b v := by
  funext x
  unfold st6 rf
  split
  · exact h _ (by omega)
  · rfl
theorem st6_st6 {r : Nat → Int32} {b : Nat} {u v : Nat → Int32} : st6 (st6 r b u) b v = st6 r b v := by
  funext x
  by_cases q : b ≤ x ∧ x < b + 6
  · rw [show x = b + (x - b) by omega, st6_in (by omega), st6_in (by omega)]
  · rw [st6_out q, st6_out q, st6_out q]
theorem rf_st6 {r g : Nat → Int32} {b f : Nat} : st6 (rf b (b + 6 * f) g r) (b + 6 * f) (fun k => g (b + 6 * f + k)) = rf b (b + 6 * (f + 1)) g r := by
  funext x
  by_cases q : b + 6 * f ≤ x ∧ x < b + 6 * f + 6
  · rw [show x = b + 6 * f + (x - (b + 6 * f)) by omega, st6_in (by omega), rf_in (by omega)]
  · rw [st6_out q]
    by_cases q2 : b ≤ x ∧ x < b + 6 * f
    · rw [rf_in q2, rf_in (by omega)]
    · rw [rf_out q2, rf_out (by omega)]
def FM (X : Mem) (d e m f : Nat) : Mem := sset (sset (sset (LL X) (39, 0, 0, 0) (rf (24 * (10 * d + e)) (24 * (10 * d + e) + 6 * f) (mfN X d e m) (X (39, 0, 0, 0)))) (35, 0, 0, 0) (rf (24 * (10 * d + e)) (24 * (10 * d + e) + 6 * f) z0 (X (35, 0, 0, 0)))) (37, 0, 0, 0) (rf (24 * (10 * d + e)) (24 * (10 * d + e) + 6 * f) z0 (X (37, 0, 0, 0)))
theorem FM_0 (X : Mem) (d e m : Nat) : LL X = FM X d e m 0 := by
  unfold FM
  simp only [Nat.mul_zero, Nat.add_zero, rf_0]
  have h39 : X (39, 0, 0, 0) = LL X (39, 0, 0, 0) := (LL_see (by decide)).symm
  have h35 : X (35, 0, 0, 0) = LL X (35, 0, 0, 0) := (LL_see (by decide)).symm
  have h37 : X (37, 0, 0, 0) = LL X (37, 0, 0, 0) := (LL_see (by decide)).symm
  rw [h39, sset_id, h35, sset_id, h37, sset_id]
theorem FM_39 {X : Mem} {d e m f : Nat} : FM X d e m f (39, 0, 0, 0) = rf (24 * (10 * d + e)) (24 * (10 * d + e) + 6 * f) (mfN X d e m) (X (39, 0, 0, 0)) := by
  unfold FM
  rw [sset_ne _ _ (nek (by decide)), sset_ne _ _ (nek (by decide)), sset_eq]
theorem FM_35 {X : Mem} {d e m f : Nat} : FM X d e m f (35, 0, 0, 0) = rf (24 * (10 * d + e)) (24 * (10 * d + e) + 6 * f) z0 (X (35, 0, 0, 0)) := by
  unfold FM
  rw [sset_ne _ _ (nek (by decide)), sset_eq]
theorem FM_37 {X : Mem} {d e m f : Nat} : FM X d e m f (37, 0, 0, 0) = rf (24 * (10 * d + e)) (24 * (10 * d + e) + 6 * f) z0 (X (37, 0, 0, 0)) := sset_eq _ _ _
theorem FM_see {X : Mem} {d e m f : Nat} {k : KN} (h35 : k.1 ≠ 35) (h37 : k.1 ≠ 37) (h39 : k.1 ≠ 39) : FM X d e m f k = LL X k := by
  unfold FM
  rw [sset_ne _ _ (fun q => h37 (by rw [q])), sset_ne _ _ (fun q => h35 (by rw [q])), sset_ne _ _ (fun q => h39 (by rw [q]))]
def GMj (X : Mem) (d e m f j : Nat) : Mem := sset (FM X d e m f) (39, 0, 0, 0) (st6 (FM X d e m f (39, 0, 0, 0)) (24 * (10 * d + e) + 6 * f) (fun k => mfN X d e j (24 * (10 * d + e) + 6 * f + k)))
theorem GMj_39 {X : Mem} {d e m f j : Nat} : GMj X d e m f j (39, 0, 0, 0) = st6 (FM X d e m f (39, 0, 0, 0)) (24 * (10 * d + e) + 6 * f) (fun k => mfN X d e j (24 * (10 * d + e) + 6 * f + k)) := sset_eq _ _ _
theorem GMj_see {X : Mem} {d e m f j : Nat} {k : KN} (h39 : k.1 ≠ 39) : GMj X d e m f j k = FM X d e m f k := sset_ne _ _ (fun q => h39 (by rw [q]))
theorem mfN_0 {X : Mem} {d e f k : Nat} (hf : f < 4) (hk : k < 6) : mfN X d e 0 (24 * (10 * d + e) + 6 * f + k) = imax (X (39, 0, 0, 0) (24 * (10 * d + e) + 6 * f + k)) (X (37, 0, 0, 0) (24 * (10 * d + e) + 6 * f + k)) := rf_in (by omega)
theorem mfN_y {X : Mem} {d e f k j : Nat} (hf : f < 4) (hk : k < 6) (h1 : mo X e j = true) (h2 : kmk X d j = true) : mfN X d e (j + 1) (24 * (10 * d + e) + 6 * f + k) = imax (mfN X d e j (24 * (10 * d + e) + 6 * f + k)) (X (41, 0, 0, 0) (24 * j + 6 * f + k)) := by
  rw [mfN, h1, h2, Bool.true_and, if_pos rfl, rf_in (by omega), show 24 * (10 * d + e) + 6 * f + k - 24 * (10 * d + e) = 6 * f + k by omega, ← Nat.add_assoc]
theorem mfN_n {X : Mem} {d e j : Nat} (h : mo X e j = false ∨ kmk X d j = false) : mfN X d e (j + 1) = mfN X d e j := by
  rw [mfN]
  rcases h with h | h
  · rw [h, Bool.false_and, if_neg (by decide)]
  · rw [h, Bool.and_false, if_neg (by decide)]
theorem mfN_sm {X : Mem} (hB : BR X) {d e : Nat} : ∀ j x, sm6 (mfN X d e j x)
  | 0, x => by
    rw [mfN]
    unfold rf
    split
    · exact sm6_imax (hB.2.2.1 _) (hB.2.1 _)
    · exact hB.2.2.1 _
  | j + 1, x => by
    rw [mfN]
    split
    · unfold rf
      split
      · exact sm6_imax (mfN_sm hB j _) (hB.2.2.2 _)
      · exact mfN_sm hB j _
    · exact mfN_sm hB j _
theorem GMj_s {X : Mem} {d e m f j : Nat} {v : Nat → Int32} (hv : ∀ k, k < 6 → v k = mfN X d e (j + 1) (24 * (10 * d + e) + 6 * f + k)) : sset (GMj X d e m f j) (39, 0, 0, 0) (st6 (GMj X d e m f j (39, 0, 0, 0)) (24 * (10 * d + e) + 6 * f) v) = GMj X d e m f (j + 1) := by
  rw [GMj_39, st6_st6, st6_congr hv]
  unfold GMj
  rw [sset_sset]
theorem GMj_0 {X : Mem} {d e m f : Nat} {v : Nat → Int32} (hv : ∀ k, k < 6 → v k = mfN X d e 0 (24 * (10 * d + e) + 6 * f + k)) : sset (FM X d e m f) (39, 0, 0, 0) (st6 (FM X d e m f (39, 0, 0, 0)) (24 * (10 * d + e) + 6 * f) v) = GMj X d e m f 0 := by
  rw [st6_congr hv]
  rfl
theorem FM_s {X : Mem} {d e m f : Nat} : sset (sset (GMj X d e m f m) (35, 0, 0, 0) (st6 (GMj X d e m f m (35, 0, 0, 0)) (24 * (10 * d + e) + 6 * f) z0)) (37, 0, 0, 0) (st6 (sset (GMj X d e m f m) (35, 0, 0, 0) (st6 (GMj X d e m f m (35, 0, 0, 0)) (24 * (10 * d + e) + 6 * f) z0) (37, 0, 0, 0)) (24 * (10 * d + e) + 6 * f) z0) = FM X d e m (f + 1) := by
  rw [sset_ne _ _ (nek (by decide)), GMj_see (by decide), GMj_see (by decide), FM_35, FM_37]
  have e1 := rf_st6 (r := X (35, 0, 0, 0)) (g := z0) (b := 24 * (10 * d + e)) (f := f)
  have e2 := rf_st6 (r := X (37, 0, 0, 0)) (g := z0) (b := 24 * (10 * d + e)) (f := f)
  have e3 := rf_st6 (r := X (39, 0, 0, 0)) (g := mfN X d e m) (b := 24 * (10 * d + e)) (f := f)
  rw [show st6 (rf (24 * (10 * d + e)) (24 * (10 * d + e) + 6 * f) z0 (X (35, 0, 0, 0))) (24 * (10 * d + e) + 6 * f) z0 = _ from e1, show st6 (rf (24 * (10 * d + e)) (24 * (10 * d + e) + 6 * f) z0 (X (37, 0, 0, 0))) (24 * (10 * d + e) + 6 * f) z0 = _ from e2]
  unfold GMj
  rw [FM_39, e3]
  funext k
  by_cases h37 : k = (37, 0, 0, 0)
  · subst h37; rw [sset_eq, FM_37]
  · rw [sset_ne _ _ h37]
    by_cases h35 : k = (35, 0, 0, 0)
    · subst h35; rw [sset_eq, FM_35]
    · rw [sset_ne _ _ h35]
      by_cases h39 : k = (39, 0, 0, 0)
      · subst h39; rw [sset_eq, FM_39]
      · rw [sset_ne _ _ h39]
        unfold FM
        rw [sset_ne _ _ h37, sset_ne _ _ h35, sset_ne _ _ h39, sset_ne _ _ h37, sset_ne _ _ h35, sset_ne _ _ h39]
def H2 (X : Mem) (d e m i : Nat) : Mem := sset (FM X d e m 4) (42, 0, 0, 0) (mfS X d e i)
theorem H2_0 (X : Mem) (d e m : Nat) : FM X d e m 4 = H2 X d e m 0 := by
  unfold H2
  rw [mfS_0, show X (42, 0, 0, 0) = FM X d e m 4 (42, 0, 0, 0) from ((FM_see (by decide) (by decide) (by decide)).trans (LL_see (by decide))).symm, sset_id]
theorem H2_42 {X : Mem} {d e m i : Nat} : H2 X d e m i (42, 0, 0, 0) = mfS X d e i := sset_eq _ _ _
theorem H2_see {X : Mem} {d e m i : Nat} {k : KN} (h : k.1 ≠ 42) : H2 X d e m i k = FM X d e m 4 k := sset_ne _ _ (fun q => h (by rw [q]))
theorem H2_s {X : Mem} {d e m i : Nat} {v : Int32} (hv : upd (mfS X d e i) (6 * i + d) v = mfS X d e (i + 1)) : sset (H2 X d e m i) (42, 0, 0, 0) (upd (H2 X d e m i (42, 0, 0, 0)) (6 * i + d) v) = H2 X d e m (i + 1) := by
  rw [H2_42, hv]
  unfold H2
  rw [sset_sset]
theorem mfS_y {X : Mem} (hT : TR X) {d e i : Nat} (hd : d < 6) (h : mo X e i = true) : upd (mfS X d e i) (6 * i + d) 0 = mfS X d e (i + 1) := by
  cases h2 : kmk X d i with
  | true => exact mfS_s1 hd h h2
  | false =>
    have h3 : X (42, 0, 0, 0) (6 * i + d) = 0 := by
      have h4 := of_decide_eq_false (show decide (0 < X (42, 0, 0, 0) (6 * i + d)) = false from h2)
      have h5 := (hT (6 * i + d)).1
      rw [Int32.lt_iff_toInt_lt, i_zero] at h4
      exact i_ext (by rw [i_zero]; omega)
    have h6 := mfS_at (I := X) (d := d) (e := e) (i := i) hd
    rw [h3] at h6
    rw [← h6, upd_same (α := Int32)]
    exact mfS_s2 (Or.inr h2)
theorem mfS_n {X : Mem} {d e i : Nat} {v : Int32} (h : mo X e i = false) (hv : v = mfS X d e i (6 * i + d)) : upd (mfS X d e i) (6 * i + d) v = mfS X d e (i + 1) := by
  rw [hv, upd_same (α := Int32)]
  exact mfS_s2 (Or.inl h)
/-- alike: the law's rows behind a forgetting -/
theorem for_LAe {X : Mem} {d e m : Nat} (hd : d < 6) (he : e < 2) : LAe (sset (H2 X d e m m) (43, 0, 0, 0) (upd (H2 X d e m m (43, 0, 0, 0)) (2 * d + e) (nI 2))) (LL (mforM X d e m)) := by
  obtain ⟨r39, r35, r37, r42, r38, r34⟩ := mfo_rows (J := X) (d := d) (e := e) (m := m)
  have hs : ∀ k : KN, k.1 ≠ 43 → k.1 ≠ 42 → k.1 ≠ 35 → k.1 ≠ 37 → k.1 ≠ 39 → sset (H2 X d e m m) (43, 0, 0, 0) (upd (H2 X d e m m (43, 0, 0, 0)) (2 * d + e) (nI 2)) k = LL X k := fun k h43 h42 h35 h37 h39 => by
    rw [sset_ne _ _ (fun q => h43 (by rw [q])), H2_see h42, FM_see h35 h37 h39]
  have ho : ∀ k : KN, k.1 ≠ 34 → k.1 ≠ 35 → k.1 ≠ 37 → k.1 ≠ 38 → k.1 ≠ 39 → k.1 ≠ 42 → mforM X d e m k = X k := fun k a b c d e f => mfor_see a b c d e f
  refine ⟨fun k hk => ?_, fun d2 e2 c _ _ _ => ?_, fun d2 e2 c _ _ _ => ?_, fun d2 e2 c hd2 he2 hc => ?_, fun x hx => ?_, fun x hx => ?_, fun x hx => ?_, fun x hx => ?_, fun x hx => ?_, fun x hx => ?_⟩
  · rw [hs k (by omega) (by omega) (by omega) (by omega) (by omega), LL_see (by omega), LL_see (by omega), ho k (by omega) (by omega) (by omega) (by omega) (by omega) (by omega)]
  · rw [LL_see (by decide), r35, sset_ne _ _ (nek (by decide)), H2_see (by decide), FM_35]
  · rw [LL_see (by decide), r37, sset_ne _ _ (nek (by decide)), H2_see (by decide), FM_37]
  · rw [LL_see (by decide), r39, sset_ne _ _ (nek (by decide)), H2_see (by decide), FM_39]
    by_cases q : 24 * (10 * d + e) ≤ cl d2 e2 c ∧ cl d2 e2 c < 24 * (10 * d + e) + 24
    · rw [rf_in (by omega)]
    · rw [rf_out (by omega), mfN_out q]
  · rw [hs _ (by decide) (by decide) (by decide) (by decide) (by decide), LL_see (by decide), LL_see (by decide), ho _ (by decide) (by decide) (by decide) (by decide) (by decide) (by decide)]
  · rw [hs _ (by decide) (by decide) (by decide) (by decide) (by decide), LL_see (by decide), LL_see (by decide), ho _ (by decide) (by decide) (by decide) (by decide) (by decide) (by decide)]
  · rw [LL_see (by decide), r42, sset_ne _ _ (nek (by decide)), H2_42]
  · rw [sset_eq, H2_see (by decide), FM_see (by decide) (by decide) (by decide), LL_43, LL_43]
    unfold kcode
    rw [r34, r38]
    by_cases q : x = 2 * d + e
    · subst q
      rw [ud_eq, show 10 * ((2 * d + e) / 2) + (2 * d + e) % 2 = 10 * d + e by omega, ud_eq, ud_eq]
      decide
    · rw [ud_ne _ _ q, ud_ne _ _ (by omega), ud_ne _ _ (by omega)]
  · rw [hs _ (by decide) (by decide) (by decide) (by decide) (by decide), LL_44, LL_44]
    unfold wcode
    rw [ho _ (by decide) (by decide) (by decide) (by decide) (by decide) (by decide), ho _ (by decide) (by decide) (by decide) (by decide) (by decide) (by decide)]
  · rw [hs _ (by decide) (by decide) (by decide) (by decide) (by decide), LL_45, LL_45]
    unfold gcode
    rw [ho _ (by decide) (by decide) (by decide) (by decide) (by decide) (by decide), ho _ (by decide) (by decide) (by decide) (by decide) (by decide) (by decide)]
