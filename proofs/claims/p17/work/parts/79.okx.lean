/-! what the law's rows keep: small numbers, months, known and noted -/
theorem sm_upd {r : Nat → Int32} {p : Nat} {v : Int32} (hr : ∀ x, sm6 (r x)) (hv : sm6 v) : ∀ x, sm6 (upd r p v x) := fun x => by
  by_cases q : x = p
  · rw [q, ud_eq]; exact hv
  · rw [ud_ne _ _ q]; exact hr x
theorem sm_rf {lo hi : Nat} {g r : Nat → Int32} (hg : ∀ x, sm6 (g x)) (hr : ∀ x, sm6 (r x)) : ∀ x, sm6 (rf lo hi g r x) := fun x => by
  unfold rf
  split
  · exact hg x
  · exact hr x
theorem sm_mgA {a b sp sq : Int32} (ha : sm6 a) (hb : sm6 b) : sm6 (mgA a b sp sq) := by
  unfold mgA
  split
  · exact ha
  · split
    · exact hb
    · exact sm6_0
def TB (v : Int32) : Prop := 0 ≤ v.toInt ∧ v.toInt ≤ 20001
theorem TB_0 : TB 0 := by unfold TB; rw [i_zero]; omega
theorem tb_upd {r : Nat → Int32} {p : Nat} {v : Int32} (hr : ∀ x, TB (r x)) (hv : TB v) : ∀ x, TB (upd r p v x) := fun x => by
  by_cases q : x = p
  · rw [q, ud_eq]; exact hv
  · rw [ud_ne _ _ q]; exact hr x
/-- the month is small -/
def MT (X : Mem) : Prop := ∃ t : Nat, t ≤ 20000 ∧ X (30, 0, 0, 0) 0 = nI t
theorem MT.tb {X : Mem} (h : MT X) : TB (X (30, 0, 0, 0) 0 + nI 1) := by
  obtain ⟨t, ht, e⟩ := h
  rw [e, nI_add]
  unfold TB
  rw [i_nI (by omega)]
  omega
/-- rows of two bits -/
def B01 (r : Nat → Int32) : Prop := ∀ x, ∃ a : Nat, a < 2 ∧ r x = nI a
theorem b01_upd {r : Nat → Int32} {p : Nat} {v : Int32} (hr : B01 r) (hv : ∃ a : Nat, a < 2 ∧ v = nI a) : B01 (upd r p v) := fun x => by
  by_cases q : x = p
  · rw [q, ud_eq]; exact hv
  · rw [ud_ne _ _ q]; exact hr x
theorem b01_1 : ∃ a : Nat, a < 2 ∧ nI 1 = nI a := ⟨1, by decide, rfl⟩
theorem b01_0 : ∃ a : Nat, a < 2 ∧ nI 0 = nI a := ⟨0, by decide, rfl⟩
theorem b01_b (b : Bool) : ∃ a : Nat, a < 2 ∧ bI b = nI a := by
  cases b
  · exact ⟨0, by decide, rfl⟩
  · exact ⟨1, by decide, rfl⟩
def OKX (X : Mem) : Prop := BR X ∧ (∀ x, TB (X (42, 0, 0, 0) x)) ∧ B01 (X (34, 0, 0, 0)) ∧ B01 (X (38, 0, 0, 0)) ∧ MT X
theorem OKX.tr {X : Mem} (h : OKX X) : TR X := h.2.1
theorem OKX.k01 {X : Mem} (h : OKX X) : K01 X := fun x => by
  obtain ⟨a, ha, e1⟩ := h.2.2.1 x
  obtain ⟨b, hb, e2⟩ := h.2.2.2.1 x
  exact ⟨a, b, ha, hb, e1, e2⟩
theorem okx_of {X Y : Mem} (h : OKX X) (e : ∀ k, k = 34 ∨ k = 35 ∨ k = 37 ∨ k = 38 ∨ k = 39 ∨ k = 41 ∨ k = 42 → Y (k, 0, 0, 0) = X (k, 0, 0, 0)) (e30 : Y (30, 0, 0, 0) 0 = X (30, 0, 0, 0) 0) : OKX Y := by
  obtain ⟨⟨b1, b2, b3, b4⟩, h2, h3, h4, h5⟩ := h
  refine ⟨⟨?_, ?_, ?_, ?_⟩, ?_, ?_, ?_, ?_⟩
  · rw [e 35 (by decide)]; exact b1
  · rw [e 37 (by decide)]; exact b2
  · rw [e 39 (by decide)]; exact b3
  · rw [e 41 (by decide)]; exact b4
  · rw [e 42 (by decide)]; exact h2
  · rw [e 34 (by decide)]; exact h3
  · rw [e 38 (by decide)]; exact h4
  · unfold MT; rw [e30]; exact h5
section OKS
variable {X : Mem} {d o e m n f : Nat}
theorem ok_for (h : OKX X) : OKX (mforM X d e m) := by
  obtain ⟨r39, r35, r37, r42, r38, r34⟩ := mfo_rows (J := X) (d := d) (e := e) (m := m)
  obtain ⟨hB, h2, h3, h4, h5⟩ := id h
  refine ⟨⟨?_, ?_, ?_, ?_⟩, ?_, ?_, ?_, ?_⟩
  · rw [r35]; exact sm_rf (fun _ => sm6_0) hB.1
  · rw [r37]; exact sm_rf (fun _ => sm6_0) hB.2.1
  · rw [r39]; exact mfN_sm hB m
  · rw [mfor_see (by decide) (by decide) (by decide) (by decide) (by decide) (by decide)]; exact hB.2.2.2
  · rw [r42]
    intro x
    unfold mfS
    split
    · exact TB_0
    · exact h2 x
  · rw [r34]; exact b01_upd h3 b01_0
  · rw [r38]; exact b01_upd h4 b01_1
  · unfold MT
    rw [mfor_see (by decide) (by decide) (by decide) (by decide) (by decide) (by decide)]
    exact h5
theorem ok_kbo (h : OKX X) : OKX (kboM X d o e) := by
  obtain ⟨hB, h2, h3, h4, h5⟩ := id h
  refine ⟨⟨?_, ?_, ?_, ?_⟩, ?_, ?_, ?_, ?_⟩
  · rw [kbo_see (by decide)]; exact hB.1
  · rw [kbo_see (by decide)]; exact hB.2.1
  · rw [kbo_see (by decide)]; exact hB.2.2.1
  · rw [kbo_see (by decide)]; exact hB.2.2.2
  · rw [kbo_see (by decide)]; exact h2
  · rw [show kboM X d o e (34, 0, 0, 0) = upd (upd (X (34, 0, 0, 0)) (10 * d + e) (nI 1)) (10 * o + e) (nI 1) from sset_eq _ _ _]; exact b01_upd (b01_upd h3 b01_1) b01_1
  · rw [kbo_see (by decide)]; exact h4
  · unfold MT; rw [kbo_see (by decide)]; exact h5
theorem ok_mgs {p q : Nat} (h : OKX X) : OKX (mgsM X p q) := by
  obtain ⟨r35, -, r37, -⟩ := mgs_rows (J := X) (p := p) (q := q)
  obtain ⟨hB, h2, h3, h4, h5⟩ := id h
  refine ⟨⟨?_, ?_, ?_, ?_⟩, ?_, ?_, ?_, ?_⟩
  · rw [r35]; exact sm_upd (sm_upd hB.1 (sm_mgA (hB.1 _) (hB.1 _))) (sm_mgA (hB.1 _) (hB.1 _))
  · rw [r37]; exact sm_upd (sm_upd hB.2.1 (sm6_imax (hB.2.1 _) (hB.2.1 _))) (sm6_imax (hB.2.1 _) (hB.2.1 _))
  · rw [mgs_see (by decide) (by decide) (by decide) (by decide)]; exact hB.2.2.1
  · rw [mgs_see (by decide) (by decide) (by decide) (by decide)]; exact hB.2.2.2
  · rw [mgs_see (by decide) (by decide) (by decide) (by decide)]; exact h2
  · rw [mgs_see (by decide) (by decide) (by decide) (by decide)]; exact h3
  · rw [mgs_see (by decide) (by decide) (by decide) (by decide)]; exact h4
  · unfold MT; rw [mgs_30 (by decide)]; exact h5
theorem ok_jf (h : OKX X) : ∀ k, OKX (jfM X d o e f k)
  | 0 => h
  | k + 1 => by rw [jfM]; exact ok_mgs (ok_jf h k)
theorem ok_jn (h : OKX X) : ∀ f, OKX (jnM X d o e f)
  | 0 => h
  | f + 1 => by
    rw [jnM]
    split
    · exact ok_jf (ok_jn h f) 6
    · exact ok_jn h f
theorem ok_lrn {k : Nat} (h : OKX X) : OKX (lrnM X d k) := by
  unfold lrnM
  split
  · exact h
  · obtain ⟨hB, h2, h3, h4, h5⟩ := id h
    refine ⟨⟨?_, ?_, ?_, ?_⟩, ?_, ?_, ?_, ?_⟩
    · rw [sset_ne _ _ (nek (by decide))]; exact hB.1
    · rw [sset_ne _ _ (nek (by decide))]; exact hB.2.1
    · rw [sset_ne _ _ (nek (by decide))]; exact hB.2.2.1
    · rw [sset_ne _ _ (nek (by decide))]; exact hB.2.2.2
    · rw [sset_eq]; exact tb_upd h2 h5.tb
    · rw [sset_ne _ _ (nek (by decide))]; exact h3
    · rw [sset_ne _ _ (nek (by decide))]; exact h4
    · unfold MT; rw [sset_ne _ _ (nek (by decide))]; exact h5
theorem ok_jl (h : OKX X) : ∀ k, OKX (jlM X d o e k)
  | 0 => h
  | k + 1 => by
    rw [jlM]
    split
    · exact ok_lrn (ok_lrn (ok_jl h k))
    · exact ok_jl h k
theorem ok_joi (h : OKX X) : OKX (joiM X d o e m) := by
  unfold joiM
  exact ok_jl (ok_jn (ok_kbo h) 4) m
theorem ok_not (h : OKX X) : OKX (notM X d o e) := by
  obtain ⟨hB, h2, h3, h4, h5⟩ := id h
  have hn : ∀ x, sm6 (ntN X d o e 24 x) := fun x => by
    unfold ntN
    exact sm_rf (fun x => sm6_imax (hB.2.2.1 _) (hB.2.2.1 _)) (sm_rf (fun x => sm6_imax (hB.2.2.1 _) (hB.2.2.1 _)) hB.2.2.1) x
  refine ⟨⟨?_, ?_, ?_, ?_⟩, ?_, ?_, ?_, ?_⟩
  · rw [not_see (by decide) (by decide)]; exact hB.1
  · rw [not_see (by decide) (by decide)]; exact hB.2.1
  · unfold notM
    rw [sset_ne _ _ (nek (by decide))]
    split
    · rw [sset_eq]; exact hn
    · exact hB.2.2.1
  · rw [not_see (by decide) (by decide)]; exact hB.2.2.2
  · rw [not_see (by decide) (by decide)]; exact h2
  · rw [not_see (by decide) (by decide)]; exact h3
  · rw [show notM X d o e (38, 0, 0, 0) = upd (upd (X (38, 0, 0, 0)) (10 * d + e) (bI (ntH X d o e))) (10 * o + e) (bI (ntH X d o e)) from sset_eq _ _ _]; exact b01_upd (b01_upd h4 (b01_b _)) (b01_b _)
  · unfold MT; rw [not_see (by decide) (by decide)]; exact h5
theorem ok_mm1 (h : OKX X) : OKX (mm1 X d o e m) := by
  unfold mm1
  by_cases a : X (34, 0, 0, 0) (10 * d + e) = 0
  · rw [if_pos a]
    by_cases b : X (34, 0, 0, 0) (10 * o + e) = 0
    · rw [if_pos b]; exact h
    · rw [if_neg b]
      by_cases c : oldR X d o e = true
      · rw [if_pos c]; exact ok_for h
      · rw [if_neg c]; exact ok_joi h
  · rw [if_neg a]
    by_cases b : X (34, 0, 0, 0) (10 * o + e) = 0
    · rw [if_pos b]
      by_cases c : oldR X o d e = true
      · rw [if_pos c]; exact ok_for h
      · rw [if_neg c]; exact ok_joi h
    · rw [if_neg b]; exact ok_joi h
theorem ok_mm2 (h : OKX X) : OKX (mm2 X d o e) := by
  unfold mm2
  by_cases a : X (34, 0, 0, 0) (10 * d + e) = 0
  · rw [if_pos a]
    by_cases b : X (34, 0, 0, 0) (10 * o + e) = 0
    · rw [if_pos b]; exact ok_not h
    · rw [if_neg b]; exact h
  · rw [if_neg a]; exact h
theorem ok_mmS (h : OKX X) : OKX (mmS X d o e m) := by
  unfold mmS
  split
  · exact ok_mm2 (ok_mm1 h)
  · exact h
theorem ok_th {w : Nat} (h : OKX X) : OKX (thM X w) := okx_of h (fun k hk => th_see (by show k ≠ 30; omega)) (th_30 (by decide))
theorem ok_mm (h : OKX X) : ∀ k, OKX (mmM X d o m k)
  | 0 => by
    rw [mmM]
    refine okx_of (ok_th (w := 0) h) (fun k hk => ?_) ?_
    · exact sset_ne _ _ (fun q => by have : k = 30 := congrArg (·.1) q; omega)
    · rw [sset_eq, ud_ne _ _ (by decide)]
  | k + 1 => by rw [mmM]; exact ok_mmS (ok_mm h k)
theorem ok_mpE (h : OKX X) : ∀ k, OKX (mpE X d m k)
  | 0 => h
  | k + 1 => by
    rw [mpE]
    split
    · exact ok_for (ok_mpE h k)
    · exact ok_mpE h k
theorem ok_mpD {x t : Nat} (h : OKX X) (ht : X (30, 0, 0, 0) 0 = nI t) (hx : t + x ≤ 20000) : ∀ D, OKX (mpD X (nI x) n m D)
  | 0 => by
    obtain ⟨hB, h2, h3, h4, h5⟩ := ok_th (w := 0) h
    have o : ∀ k, k ≠ 30 → mpD X (nI x) n m 0 (k, 0, 0, 0) = thM X 0 (k, 0, 0, 0) := fun k hk => by
      rw [mpD]
      exact sset_ne _ _ (fun q => by have : k = 30 := congrArg (·.1) q; omega)
    refine ⟨⟨?_, ?_, ?_, ?_⟩, ?_, ?_, ?_, t + x, hx, ?_⟩
    · rw [o 35 (by decide)]; exact hB.1
    · rw [o 37 (by decide)]; exact hB.2.1
    · rw [o 39 (by decide)]; exact hB.2.2.1
    · rw [o 41 (by decide)]; exact hB.2.2.2
    · rw [o 42 (by decide)]; exact h2
    · rw [o 34 (by decide)]; exact h3
    · rw [o 38 (by decide)]; exact h4
    · rw [mpD, sset_eq, ud_eq, th_30 (by decide), ht, nI_add]
  | D + 1 => by rw [mpD]; exact ok_mpE (ok_mpD h ht hx D) n
theorem ok_ent (h : OKX X) : OKX (mEntM X d n) := by
  obtain ⟨hB, h2, h3, h4, h5⟩ := ok_th (w := 0) h
  have o : ∀ k, k ≠ 30 → k ≠ 32 → k ≠ 34 → mEntM X d n (k, 0, 0, 0) = thM X 0 (k, 0, 0, 0) := fun k a b c => by
    unfold mEntM
    rw [sset_ne _ _ (fun q => a (congrArg (·.1) q)), sset_ne _ _ (fun q => c (congrArg (·.1) q)), sset_ne _ _ (fun q => b (congrArg (·.1) q))]
  refine ⟨⟨?_, ?_, ?_, ?_⟩, ?_, ?_, ?_, ?_⟩
  · rw [o 35 (by decide) (by decide) (by decide)]; exact hB.1
  · rw [o 37 (by decide) (by decide) (by decide)]; exact hB.2.1
  · rw [o 39 (by decide) (by decide) (by decide)]; exact hB.2.2.1
  · rw [o 41 (by decide) (by decide) (by decide)]; exact hB.2.2.2
  · rw [o 42 (by decide) (by decide) (by decide)]; exact h2
  · unfold mEntM
    rw [sset_ne _ _ (nek (by decide)), sset_eq]
    exact b01_upd (by rw [← th_see (I := X) (w := 0) (k := (34, 0, 0, 0)) (by decide)]; exact h3) b01_1
  · rw [o 38 (by decide) (by decide) (by decide)]; exact h4
  · unfold MT mEntM
    rw [sset_eq, ud_ne _ _ (by decide)]
    exact h5
theorem ok_tll {v : Int32} {a : Nat} (h : OKX X) (ha : X (31, 0, 0, 0) d = nI a) (ha2 : a < 63) : OKX (mtlM X d e f v) := by
  obtain ⟨hB, h2, h3, h4, h5⟩ := id h
  have hsm : sm6 (X (31, 0, 0, 0) d + nI 1) := by rw [ha, nI_add]; exact sm6_of (by omega)
  have h0 : ∀ x, sm6 (mt0 X d e f x) := sm_rf (fun _ => sm6_0) hB.1
  have o : ∀ k, k ≠ 30 → k ≠ 31 → k ≠ 35 → k ≠ 36 → k ≠ 37 → mtlM X d e f v (k, 0, 0, 0) = X (k, 0, 0, 0) := fun k a b c d e => mtl_see a b c d e
  refine ⟨⟨?_, ?_, ?_, ?_⟩, ?_, ?_, ?_, ?_⟩
  · rw [mtl_35]
    split
    · exact h0
    · exact sm_upd h0 hsm
  · rw [mtl_37]; exact sm_upd hB.2.1 hsm
  · rw [o 39 (by decide) (by decide) (by decide) (by decide) (by decide)]; exact hB.2.2.1
  · rw [o 41 (by decide) (by decide) (by decide) (by decide) (by decide)]; exact hB.2.2.2
  · rw [o 42 (by decide) (by decide) (by decide) (by decide) (by decide)]; exact h2
  · rw [o 34 (by decide) (by decide) (by decide) (by decide) (by decide)]; exact h3
  · rw [o 38 (by decide) (by decide) (by decide) (by decide) (by decide)]; exact h4
  · unfold MT; rw [mtl_30, th_30 (by decide)]; exact h5
theorem ok_del (h : OKX X) : OKX (mdlM X d e m) := by
  obtain ⟨hB, h2, h3, h4, h5⟩ := id h
  have o : ∀ k, k ≠ 30 → k ≠ 31 → k ≠ 40 → k ≠ 41 → k ≠ 42 → mdlM X d e m (k, 0, 0, 0) = X (k, 0, 0, 0) := fun k a b c d e => mdl_see a b c d e
  refine ⟨⟨?_, ?_, ?_, ?_⟩, ?_, ?_, ?_, ?_⟩
  · rw [o 35 (by decide) (by decide) (by decide) (by decide) (by decide)]; exact hB.1
  · rw [o 37 (by decide) (by decide) (by decide) (by decide) (by decide)]; exact hB.2.1
  · rw [o 39 (by decide) (by decide) (by decide) (by decide) (by decide)]; exact hB.2.2.1
  · unfold mdlM
    rw [sset_ne _ _ (nek (by decide)), sset_ne _ _ (nek (by decide)), sset_eq]
    exact sm_rf (fun _ => hB.2.1 _) hB.2.2.2
  · unfold mdlM
    rw [sset_ne _ _ (nek (by decide)), sset_eq]
    exact tb_upd h2 h5.tb
  · rw [o 34 (by decide) (by decide) (by decide) (by decide) (by decide)]; exact h3
  · rw [o 38 (by decide) (by decide) (by decide) (by decide) (by decide)]; exact h4
  · unfold MT mdlM
    rw [sset_eq, ud_ne _ _ (by decide), th_30 (by decide)]
    exact h5
theorem sm_shR {F : Int32} {q : Nat} {r : Nat → Int32} (hr : ∀ x, sm6 (r x)) : ∀ i x, sm6 (shR F q e r i x)
  | 0, x => hr x
  | i + 1, x => by
    rw [shR]
    refine sm_rf (fun x => ?_) (sm_shR hr i) x
    unfold shG
    split
    · exact sm_shR hr i x
    · exact sm6_0
theorem ok_shr {q : Nat} {F : Int32} (h : OKX X) : OKX (mshM X e q F) := by
  obtain ⟨hB, h2, h3, h4, h5⟩ := id h
  have o : ∀ k, k ≠ 30 → k ≠ 33 → k ≠ 35 → k ≠ 37 → mshM X e q F (k, 0, 0, 0) = X (k, 0, 0, 0) := fun k a b c d => msh_see a b c d
  refine ⟨⟨?_, ?_, ?_, ?_⟩, ?_, ?_, ?_, ?_⟩
  · unfold mshM
    rw [sset_ne _ _ (nek (by decide)), sset_eq]
    exact sm_shR hB.1 2
  · unfold mshM
    rw [sset_eq]
    exact sm_shR hB.2.1 2
  · rw [o 39 (by decide) (by decide) (by decide) (by decide)]; exact hB.2.2.1
  · rw [o 41 (by decide) (by decide) (by decide) (by decide)]; exact hB.2.2.2
  · rw [o 42 (by decide) (by decide) (by decide) (by decide)]; exact h2
  · rw [o 34 (by decide) (by decide) (by decide) (by decide)]; exact h3
  · rw [o 38 (by decide) (by decide) (by decide) (by decide)]; exact h4
  · unfold MT mshM
    rw [sset_ne _ _ (nek (by decide)), sset_ne _ _ (nek (by decide)), sset_ne _ _ (nek (by decide)), th_30 (by decide)]
    exact h5
end OKS
