section KEEP6
variable {I J I' J' : Mem} {L L' : Nat → Nat → Int32 → Int32} {n m t t' : Nat} {ac ac' mcs : Nat → Nat} {e d o : Nat}
/-! notes exchanged -/
theorem imax_self2 (a b : Int32) : imax b (imax a b) = imax a b := i_ext (by rw [i_imax, i_imax]; omega)
theorem nz_dec (x : Int32) : nz x = !decide (x = 0) := by
  unfold nz
  by_cases q : x = 0
  · rw [if_pos q, decide_eq_true q]; rfl
  · rw [if_neg q, decide_eq_false q]; rfl
theorem ntN_at {d2 e2 c : Nat} (he : e < 10) (he2 : e2 < 10) (hc : c < 24) (hne : d ≠ o) : ntN J d o e 24 (cl d2 e2 c) = if e2 = e ∧ (d2 = d ∨ d2 = o) then imax (J (39, 0, 0, 0) (cl d e c)) (J (39, 0, 0, 0) (cl o e c)) else J (39, 0, 0, 0) (cl d2 e2 c) := by
  unfold ntN
  by_cases q : e2 = e ∧ d2 = o
  · obtain ⟨rfl, rfl⟩ := q
    rw [rf_in (by unfold cl; omega), if_pos ⟨rfl, Or.inr rfl⟩, show cl d2 e2 c - 24 * (10 * d2 + e2) = c by unfold cl; omega]
  · rw [rf_out (blk_ne he he2 hc q)]
    by_cases q2 : e2 = e ∧ d2 = d
    · obtain ⟨rfl, rfl⟩ := q2
      rw [rf_in (by unfold cl; omega), if_pos ⟨rfl, Or.inl rfl⟩, show cl d2 e2 c - 24 * (10 * d2 + e2) = c by unfold cl; omega]
    · rw [rf_out (blk_ne he he2 hc q2), if_neg (by omega)]
theorem exch_at (hne : d ≠ o) (h : (nz (I (9, 0, e, d) 1) || nz (I (9, 0, e, o) 1)) = true) :
    exchM I 0 e d o (9, 0, e, d) = upd (I (9, 0, e, d)) 1 1 ∧ exchM I 0 e d o (9, 0, e, o) = upd (I (9, 0, e, o)) 1 1 ∧ exchM I 0 e d o (15, 0, e, d) = gM (I (15, 0, e, d)) (I (15, 0, e, o)) ∧ exchM I 0 e d o (15, 0, e, o) = gM (I (15, 0, e, o)) (gM (I (15, 0, e, d)) (I (15, 0, e, o))) := by
  have dn : ∀ kk, ((kk, 0, e, d) : KN) ≠ (kk, 0, e, o) := fun kk z => hne (congrArg (·.2.2.2) z)
  unfold exchM
  rw [if_pos h]
  refine ⟨?_, ?_, ?_, ?_⟩
  · rw [sset_ne _ _ (nek (by decide)), sset_ne _ _ (nek (by decide)), sset_ne _ _ (dn 9), sset_eq]
  · rw [sset_ne _ _ (nek (by decide)), sset_ne _ _ (nek (by decide)), sset_eq]
  · rw [sset_ne _ _ (dn 15), sset_eq]
  · rw [sset_eq]
theorem exch_oth {k : KN} (h1 : k.2 ≠ (0, e, d)) (h2 : k.2 ≠ (0, e, o)) : exchM I 0 e d o k = I k := by
  unfold exchM
  split
  · rw [sset_ne _ _ (fun z => h2 (congrArg (·.2) z)), sset_ne _ _ (fun z => h1 (congrArg (·.2) z)), sset_ne _ _ (fun z => h2 (congrArg (·.2) z)), sset_ne _ _ (fun z => h1 (congrArg (·.2) z))]
  · rfl
theorem rel_exch (h : Rel I J L n m t ac mcs) (he : e < 10) (hd : d < 6) (ho : o < 6) (hne : d ≠ o) : Rel (exchM I 0 e d o) (notM J d o e) L n m t ac mcs := by
  have hs : ∀ k : KN, k.1 ≠ 9 → k.1 ≠ 15 → exchM I 0 e d o k = I k := fun k a b => exch_see a b
  have hj : ∀ k : KN, k.1 ≠ 38 → k.1 ≠ 39 → notM J d o e k = J k := fun k a b => not_see a b
  have j38 : notM J d o e (38, 0, 0, 0) = upd (upd (J (38, 0, 0, 0)) (10 * d + e) (bI (ntH J d o e))) (10 * o + e) (bI (ntH J d o e)) := sset_eq _ _ _
  have j39 : notM J d o e (39, 0, 0, 0) = if ntH J d o e then ntN J d o e 24 else J (39, 0, 0, 0) := by
    unfold notM
    rw [sset_ne _ _ (nek (by decide))]
    split
    · rw [sset_eq]
    · rfl
  have h1 := h.cp e d he hd
  have h2 := h.cp e o he ho
  have hH : ntH J d o e = (nz (I (9, 0, e, d) 1) || nz (I (9, 0, e, o) 1)) := by
    unfold ntH
    rw [nz_dec, nz_dec, h1.nt, h2.nt]
  refine ⟨gl_of h.gl (hs _ (kz rfl) (kz rfl)) (hs _ (kz rfl) (kz rfl)) (fun _ => hs _ (kz rfl) (kz rfl)) (fun _ => hs _ (kz rfl) (kz rfl)) (fun _ _ => congrFun (hj _ (kz rfl) (kz rfl)) _) (hj _ (kz rfl) (kz rfl)) (hj _ (kz rfl) (kz rfl)) (hj _ (kz rfl) (kz rfl)), fun e2 d2 he2 hd2 => ?_, mk_of h.mk (fun _ _ _ => hs _ (kz rfl) (kz rfl)) (fun _ _ _ => hs _ (kz rfl) (kz rfl)) (hj _ (kz rfl) (kz rfl)) (hj _ (kz rfl) (kz rfl)) (hj _ (kz rfl) (kz rfl)) (Nat.le_refl _), h.acb, h.mb, h.tb⟩
  have hc := h.cp e2 d2 he2 hd2
  have a : ∀ kk, (kk = 10 ∨ kk = 11 ∨ kk = 13) → exchM I 0 e d o (kk, 0, e2, d2) = I (kk, 0, e2, d2) := fun kk hk => hs _ (by show kk ≠ 9; omega) (by show kk ≠ 15; omega)
  by_cases q : e2 = e ∧ (d2 = d ∨ d2 = o)
  · obtain ⟨rfl, q⟩ := q
    have x9 : exchM I 0 e2 d o (9, 0, e2, d2) 0 = I (9, 0, e2, d2) 0 ∧ exchM I 0 e2 d o (9, 0, e2, d2) 1 = bI (ntH J d o e2) ∧ ∀ c, c < 24 → exchM I 0 e2 d o (15, 0, e2, d2) c = notM J d o e2 (39, 0, 0, 0) (cl d2 e2 c) := by
      rw [hH, j39, hH]
      cases hb : (nz (I (9, 0, e2, d) 1) || nz (I (9, 0, e2, o) 1)) with
      | true =>
        obtain ⟨r1, r2, r3, r4⟩ := exch_at hne hb
        rw [if_pos rfl]
        have nn : ∀ c, c < 24 → ntN J d o e2 24 (cl d2 e2 c) = imax (I (15, 0, e2, d) c) (I (15, 0, e2, o) c) := fun c hcc => by
          rw [ntN_at he he2 hcc hne, if_pos ⟨rfl, q⟩, h1.no c hcc, h2.no c hcc]
        rcases q with rfl | rfl
        · rw [r1, r3]
          exact ⟨ud_ne _ _ (by decide), ud_eq _ _ _, fun c hcc => (nn c hcc).symm⟩
        · rw [r2, r4]
          exact ⟨ud_ne _ _ (by decide), ud_eq _ _ _, fun c hcc => by rw [nn c hcc]; exact imax_self2 _ _⟩
      | false =>
        have r : exchM I 0 e2 d o = I := by unfold exchM; rw [hb]; rfl
        rw [r, if_neg (by decide)]
        refine ⟨rfl, ?_, fun c hcc => hc.no c hcc⟩
        rw [Bool.or_eq_false_iff] at hb
        rcases q with rfl | rfl
        · exact nz_f hb.1
        · exact nz_f hb.2
    refine ⟨?_, ?_, fun c hcc => ?_, fun c hcc => ?_, fun c hcc => ?_, fun c hcc hn => ?_, fun c hcc hn => ?_, fun c hcc => ?_, fun c hcc => ?_⟩
    · rw [x9.1, hj _ (kz rfl) (kz rfl)]; exact hc.kn
    · rw [x9.2.1, j38]
      rcases q with rfl | rfl
      · rw [ud_ne _ _ (by omega), ud_eq]
      · rw [ud_eq]
    · rw [a 10 (by decide), hj _ (kz rfl) (kz rfl)]; exact hc.ac_ c hcc
    · rw [a 13 (by decide), hj _ (kz rfl) (kz rfl)]; exact hc.se c hcc
    · exact x9.2.2 c hcc
    · rw [a 10 (by decide)] at hn ⊢; rw [a 11 (by decide)]; exact hc.to c hcc hn
    · rw [a 10 (by decide)] at hn ⊢; rw [hj _ (kz rfl) (kz rfl)]; exact hc.va c hcc hn
    · rw [a 10 (by decide)]; exact hc.av c hcc
    · rw [a 13 (by decide)]; exact hc.sv c hcc
  · refine cp_of hc (fun kk hkk => exch_oth (fun z => q ⟨congrArg (·.2.1) z, Or.inl (congrArg (·.2.2) z)⟩) (fun z => q ⟨congrArg (·.2.1) z, Or.inr (congrArg (·.2.2) z)⟩)) (by rw [hj _ (kz rfl) (kz rfl)]) ?_ (fun c hcc => ⟨by rw [hj _ (kz rfl) (kz rfl)], by rw [hj _ (kz rfl) (kz rfl)], by rw [hj _ (kz rfl) (kz rfl)], ?_⟩) (fun _ _ _ _ _ => rfl) (fun _ => Nat.le_refl _)
    · rw [j38, ud_ne _ _ (by omega), ud_ne _ _ (by omega)]
    · rw [j39]
      split
      · rw [ntN_at he he2 hcc hne, if_neg q]
      · rfl
/-! marks spread -/
theorem lrn_42 {k x : Nat} : lrnM J d k (42, 0, 0, 0) x = if x = 6 * k + d ∧ kmk J d k = false then J (30, 0, 0, 0) 0 + nI 1 else J (42, 0, 0, 0) x := by
  unfold lrnM
  cases h : kmk J d k with
  | true => rw [if_pos rfl, if_neg (fun z => by cases z.2)]
  | false =>
    rw [if_neg (by decide), sset_eq]
    by_cases q : x = 6 * k + d
    · rw [q, ud_eq, if_pos ⟨rfl, rfl⟩]
    · rw [ud_ne _ _ q, if_neg (fun z => q z.1)]
theorem jl_42 (hd : d < 6) (ho : o < 6) (hne : d ≠ o) : ∀ K k d2, d2 < 6 → jlM J d o e K (42, 0, 0, 0) (6 * k + d2) = if k < K ∧ mo J e k = true ∧ (kmk J d k || kmk J o k) = true ∧ (d2 = d ∨ d2 = o) ∧ kmk J d2 k = false then J (30, 0, 0, 0) 0 + nI 1 else J (42, 0, 0, 0) (6 * k + d2)
  | 0, k, d2, _ => by rw [if_neg (fun z => Nat.not_lt_zero _ z.1)]; rfl
  | K + 1, k, d2, hd2 => by
    have ih := jl_42 hd ho hne K
    rw [jlM]
    have hk : ∀ d3, d3 < 6 → kmk (jlM J d o e K) d3 K = kmk J d3 K := fun d3 h3 => by
      unfold kmk
      rw [ih K d3 h3, if_neg (fun z => Nat.lt_irrefl _ z.1)]
    have h30 : jlM J d o e K (30, 0, 0, 0) = J (30, 0, 0, 0) := jl_see (kz rfl) K
    rw [hk d hd, hk o ho]
    by_cases hc : (mo J e K && (kmk J d K || kmk J o K)) = true
    · rw [if_pos hc]
      rw [Bool.and_eq_true] at hc
      have hko : kmk (lrnM (jlM J d o e K) d K) o K = kmk J o K := by
        unfold kmk
        rw [lrn_42, if_neg (fun z => hne (by have := z.1; omega)), ih K o ho, if_neg (fun z => Nat.lt_irrefl _ z.1)]
      rw [lrn_42, hko, lrn_see (kz rfl), h30, lrn_42, hk d hd, h30, ih k d2 hd2]
      by_cases q : k = K
      · subst q
        by_cases q1 : d2 = d
        · subst q1
          rw [if_neg (fun z => hne (by have := z.1; omega))]
          cases hkd : kmk J d2 k with
          | true => rw [if_neg (fun z => by cases z.2), if_neg (fun z => Nat.lt_irrefl _ z.1), if_neg (fun z => by cases z.2.2.2.2)]
          | false => rw [if_pos ⟨rfl, rfl⟩, if_pos ⟨Nat.lt_succ_self _, hc.1, by rw [← hkd]; exact hc.2, Or.inl rfl, rfl⟩]
        · by_cases q2 : d2 = o
          · subst q2
            cases hko2 : kmk J d2 k with
            | true => rw [if_neg (fun z => by cases z.2), if_neg (fun z => q1 (by have := z.1; omega)), if_neg (fun z => Nat.lt_irrefl _ z.1), if_neg (fun z => by cases z.2.2.2.2)]
            | false => rw [if_pos ⟨rfl, rfl⟩, if_pos ⟨Nat.lt_succ_self _, hc.1, by rw [← hko2]; exact hc.2, Or.inr rfl, rfl⟩]
          · rw [if_neg (fun z => q2 (by have := z.1; omega)), if_neg (fun z => q1 (by have := z.1; omega)), if_neg (fun z => Nat.lt_irrefl _ z.1), if_neg (fun z => z.2.2.2.1.elim q1 q2)]
      · rw [if_neg (fun z => q (by have := z.1; omega)), if_neg (fun z => q (by have := z.1; omega))]
        have e1 : (k < K + 1) = (k < K) := propext (by omega)
        simp only [e1]
    · rw [if_neg hc, ih k d2 hd2]
      by_cases q : k = K
      · subst q
        rw [if_neg (fun z => Nat.lt_irrefl _ z.1), if_neg]
        rintro ⟨-, z1, z2, -⟩
        exact hc (by rw [z1, z2]; rfl)
      · have e1 : (k < K + 1) = (k < K) := propext (by omega)
        simp only [e1]
theorem rel_spd (h : Rel I J L n m t ac mcs) (he : e < 10) (hd : d < 6) (ho : o < 6) (hne : d ≠ o) : Rel (spdM I 0 e d o (I (1, 0, 0, 0) 0) (mcs e)) (jlM J d o e m) L n m t ac mcs := by
  have hk := h.mk
  have hs : ∀ k : KN, k.1 ≠ 19 → spdM I 0 e d o (I (1, 0, 0, 0) 0) (mcs e) k = I k := fun k a => spd_ne a
  have hj : ∀ k : KN, k.1 ≠ 42 → jlM J d o e m k = J k := fun k a => jl_see a m
  have hmo : ∀ e2, mo (jlM J d o e m) e2 = mo J e2 := fun e2 => by unfold mo; rw [hj _ (kz rfl)]
  have hu : ∀ e2 j, spdM I 0 e d o (I (1, 0, 0, 0) 0) (mcs e) (19, 0, e2, j) = if e2 = e ∧ j < mcs e then sprd (I (19, 0, e2, j)) d o (I (1, 0, 0, 0) 0) else I (19, 0, e2, j) := fun e2 j => by
    show (if (19 : Nat) = 19 ∧ (0 : Nat) = 0 ∧ e2 = e ∧ j < mcs e then sprd (I (19, 0, e2, j)) d o (I (1, 0, 0, 0) 0) else I (19, 0, e2, j)) = _
    by_cases q : e2 = e ∧ j < mcs e
    · rw [if_pos q, if_pos ⟨rfl, rfl, q⟩]
    · rw [if_neg q, if_neg (fun z => q z.2.2)]
  have et : (I (1, 0, 0, 0) 0).toInt = t := by rw [h.gl.tI, i_nI (by have := h.tb; omega)]
  have eJ : I (1, 0, 0, 0) 0 + 1 = J (30, 0, 0, 0) 0 + nI 1 := by rw [h.gl.tI, h.gl.tJ]; rfl
  refine ⟨gl_of h.gl (hs _ (kz rfl)) (hs _ (kz rfl)) (fun _ => hs _ (kz rfl)) (fun _ => hs _ (kz rfl)) (fun _ _ => congrFun (hj _ (kz rfl)) _) (hj _ (kz rfl)) (hj _ (kz rfl)) (hj _ (kz rfl)), fun e2 d2 he2 hd2 => ?_, ⟨fun e2 he2 => ?_, fun e2 k he2 hkm hmk c hc => ?_, fun e2 k he2 hkm hmk d2 hd2 => ?_, fun e2 j he2 hj2 c hc => ?_, fun e2 j he2 hj2 d2 hd2 => ?_, fun k d2 hkm hd2 => ?_⟩, h.acb, h.mb, h.tb⟩
  · exact cp_of (h.cp e2 d2 he2 hd2) (fun kk hkk => hs _ (by show kk ≠ 19; omega)) (by rw [hj _ (kz rfl)]) (by rw [hj _ (kz rfl)]) (fun c _ => ⟨by rw [hj _ (kz rfl)], by rw [hj _ (kz rfl)], by rw [hj _ (kz rfl)], by rw [hj _ (kz rfl)]⟩) (fun _ _ _ _ _ => rfl) (fun _ => Nat.le_refl _)
  · rw [hmo]; exact hk.ct e2 he2
  · rw [hmo] at hmk ⊢
    rw [hs _ (kz rfl), hj _ (kz rfl)]
    exact hk.cp e2 k he2 hkm hmk c hc
  · rw [hmo] at hmk ⊢
    have hlt := cnt_lt hkm hmk
    rw [← hk.ct e2 he2] at hlt
    have hsi := hk.si e2 k he2 hkm hmk d2 hd2
    rw [hu, jl_42 hd ho hne m k d2 hd2]
    by_cases q : e2 = e
    · subst q
      rw [if_pos ⟨rfl, hlt⟩]
      have kd := rl_kmk hk h.tb he2 hd hkm hmk
      have ko := rl_kmk hk h.tb he2 ho hkm hmk
      unfold sprd
      rw [kd, ko]
      cases xd : kmk J d k with
      | true =>
        rw [if_pos rfl]
        cases xo : kmk J o k with
        | true =>
          rw [if_pos rfl, if_neg]
          · exact hsi
          · rintro ⟨-, -, -, y | y, z⟩
            · rw [y, xd] at z; cases z
            · rw [y, xo] at z; cases z
        | false =>
          rw [if_neg (by decide)]
          by_cases z : d2 = o
          · rw [z, ud_eq, if_pos ⟨hkm, hmk, rfl, Or.inr rfl, xo⟩]; exact eJ
          · rw [ud_ne _ _ z, if_neg]
            · exact hsi
            · rintro ⟨-, -, -, y | y, x⟩
              · rw [y, xd] at x; cases x
              · exact z y
      | false =>
        rw [if_neg (by decide)]
        cases xo : kmk J o k with
        | true =>
          rw [if_pos rfl]
          by_cases z : d2 = d
          · rw [z, ud_eq, if_pos ⟨hkm, hmk, rfl, Or.inl rfl, xd⟩]; exact eJ
          · rw [ud_ne _ _ z, if_neg]
            · exact hsi
            · rintro ⟨-, -, -, y | y, x⟩
              · exact z y
              · rw [y, xo] at x; cases x
        | false =>
          rw [if_neg (by decide), if_neg (fun y => by cases y.2.2.1)]
          exact hsi
    · rw [if_neg (fun z => q z.1), if_neg]
      · exact hsi
      · rintro ⟨-, x, -⟩
        rw [mo_ne hmk he2 he (fun y => q y.symm)] at x
        cases x
  · rw [hs _ (kz rfl)]; exact hk.cv e2 j he2 hj2 c hc
  · rw [hu]
    have hsv := hk.sv e2 j he2 hj2 d2 hd2
    have hu2 : ∀ x, -1 ≤ (upd (I (19, 0, e2, j)) x (I (1, 0, 0, 0) 0) d2).toInt ∧ (upd (I (19, 0, e2, j)) x (I (1, 0, 0, 0) 0) d2).toInt ≤ t := fun x => by
      by_cases z : d2 = x
      · rw [z, ud_eq, et]; omega
      · rw [ud_ne _ _ z]; exact hsv
    split
    · unfold sprd
      split
      · split
        · exact hsv
        · exact hu2 _
      · split
        · exact hu2 _
        · exact hsv
    · exact hsv
  · rw [jl_42 hd ho hne m k d2 hd2, if_neg (fun z => by omega)]
    exact hk.zz k d2 hkm hd2
/-! fields braided, an entry braided -/
theorem shP_congr {f : Nat} (h2 : J' (32, 0, 0, 0) = J (32, 0, 0, 0)) (h3 : J' (33, 0, 0, 0) = J (33, 0, 0, 0)) : shP J' d o e f = shP J d o e f := by
  unfold shP
  rw [may_congr h2 h3, may_congr h2 h3]
theorem rel_fld (h : Rel I J L n m t ac mcs) (he : e < 10) (hd : d < 6) (ho : o < 6) (hne : d ≠ o) {F : Int32} (hF : ∀ f, f < 4 → bit F f = shP J d o e f) : ∀ f, f ≤ 4 → Rel (fldM I 0 e d o F f) (jnM J d o e f) L n m t ac mcs ∧ jnM J d o e f (30, 0, 0, 0) 3 = J (30, 0, 0, 0) 3 + fldG I 0 e d o F f
  | 0, _ => ⟨h, (Int32.add_zero _).symm⟩
  | f + 1, hf => by
    obtain ⟨ih, ig⟩ := rel_fld h he hd ho hne hF f (by omega)
    rw [fldM, jnM, fldG, hF f (by omega)]
    split
    · refine ⟨rel_braid ih he hd ho (by omega) hne, ?_⟩
      rw [jf_gain ih he hd ho (by omega) hne 6 (Nat.le_refl 6), ig, Int32.add_assoc]
    · exact ⟨ih, ig⟩
theorem rel_join (h : Rel I J L n m t ac mcs) (he : e < 10) (hd : d < 6) (ho : o < 6) (hne : d ≠ o) : Rel (ebrM I 0 e d o (mcs e) (ff I 0 e d &&& ff I 0 e o) (I (1, 0, 0, 0) 0)) (joiM J d o e m) L n m t ac mcs ∧ joiM J d o e m (30, 0, 0, 0) 3 = J (30, 0, 0, 0) 3 + fldG (knwM I 0 e d o) 0 e d o (ff I 0 e d &&& ff I 0 e o) 4 := by
  have h1 := rel_knw h he hd ho hne
  have hF : ∀ f, f < 4 → bit (ff I 0 e d &&& ff I 0 e o) f = shP (kboM J d o e) d o e f := fun f hf => by
    rw [rl_ffb h.gl he hd ho hf, shP_congr (kbo_see (kz rfl)) (kbo_see (kz rfl))]
  obtain ⟨h2, g2⟩ := rel_fld h1 he hd ho hne hF 4 (Nat.le_refl 4)
  have h3 := rel_spd h2 he hd ho hne
  have e1 : fldM (knwM I 0 e d o) 0 e d o (ff I 0 e d &&& ff I 0 e o) 4 (1, 0, 0, 0) 0 = I (1, 0, 0, 0) 0 := by
    rw [fld_see (kz rfl) (kz rfl) (kz rfl), knw_see (kz rfl)]
  rw [e1] at h3
  refine ⟨h3, ?_⟩
  unfold joiM
  rw [jl_see (kz rfl), g2, kbo_see (kz rfl)]
/-! an entry merged -/
theorem otd_old (h1 : Cp I J L ac e d) (h2 : Cp I J L ac e o) : otd I 0 e d o = if J (34, 0, 0, 0) (10 * d + e) = 0 then false else if J (34, 0, 0, 0) (10 * o + e) = 0 then oldR J o d e else false := by
  unfold otd
  rw [h1.kn, h2.kn, h2.nt]
  split
  · rfl
  · split
    · unfold oldR
      have hc : cov (I (10, 0, e, d)) (I (15, 0, e, o)) = allB (oldP J o d e) 24 := allB_congr (fun c hc => by
        rw [dec_le, h1.ac_ c hc, h2.no c hc]
        rfl)
      rw [hc]
      by_cases q : J (38, 0, 0, 0) (10 * o + e) = 0
      · rw [if_pos q, decide_eq_true q]; rfl
      · rw [if_neg q, decide_eq_false q]; rfl
    · rfl
theorem rel_mg1 (h : Rel I J L n m t ac mcs) (he : e < 10) (hd : d < 6) (ho : o < 6) (hne : d ≠ o) : Rel (mg1M I 0 e d o (mcs e) (I (1, 0, 0, 0) 0)) (mm1 J d o e m) L n m t ac mcs ∧ mm1 J d o e m (30, 0, 0, 0) 3 + nI (100 * mm1G J d o e) = J (30, 0, 0, 0) 3 + mg1R I 0 e d o := by
  have h1 := h.cp e d he hd
  have h2 := h.cp e o he ho
  have hj := rel_join h he hd ho hne
  have f30 : ∀ d2, mforM J d2 e m (30, 0, 0, 0) = J (30, 0, 0, 0) := fun d2 => mfor_see (kz rfl) (kz rfl) (kz rfl) (kz rfl) (kz rfl) (kz rfl)
  have z0' : ∀ x : Int32, x + nI (100 * 0) = x := fun x => Int32.add_zero x
  unfold mg1M mm1 mg1R mm1G
  rw [otd_old h1 h2, otd_old h2 h1, h1.kn, h2.kn]
  by_cases kd : J (34, 0, 0, 0) (10 * d + e) = 0
  · simp only [if_pos kd]
    by_cases ko : J (34, 0, 0, 0) (10 * o + e) = 0
    · simp only [if_pos ko]
      exact ⟨h, rfl⟩
    · simp only [if_neg ko]
      cases oldR J d o e with
      | true => exact ⟨rel_forget h he ho, by rw [if_pos rfl, if_pos rfl, f30]; rfl⟩
      | false => exact ⟨hj.1, (z0' _).trans hj.2⟩
  · simp only [if_neg kd]
    by_cases ko : J (34, 0, 0, 0) (10 * o + e) = 0
    · simp only [if_pos ko]
      cases oldR J o d e with
      | true => exact ⟨rel_forget h he hd, by rw [if_pos rfl, if_pos rfl, f30]; rfl⟩
      | false => exact ⟨hj.1, (z0' _).trans hj.2⟩
    · simp only [if_neg ko]
      exact ⟨hj.1, (z0' _).trans hj.2⟩
theorem rel_mg2 (h : Rel I J L n m t ac mcs) (he : e < 10) (hd : d < 6) (ho : o < 6) (hne : d ≠ o) : Rel (mg2M I 0 e d o) (mm2 J d o e) L n m t ac mcs := by
  unfold mg2M mm2
  rw [(h.cp e d he hd).kn, (h.cp e o he ho).kn]
  split
  · split
    · exact rel_exch h he hd ho hne
    · exact h
  · exact h
theorem rel_mge (h : Rel I J L n m t ac mcs) (he : e < 10) (hd : d < 6) (ho : o < 6) (hne : d ≠ o) : Rel (mgeM I 0 e d o (mcs e) (I (1, 0, 0, 0) 0)) (mmS J d o e m) L n m t ac mcs ∧ mmS J d o e m (30, 0, 0, 0) 3 + nI (100 * (if shB J d o e then mm1G J d o e else 0)) = J (30, 0, 0, 0) 3 + mgeR I 0 e d o := by
  unfold mgeM mmS mgeR
  have hz := rl_ffz h.gl he hd ho
  cases hb : shB J d o e with
  | false =>
    rw [if_pos (hz.mpr hb), if_pos (hz.mpr hb), if_neg (by decide), if_neg (by decide)]
    exact ⟨h, rfl⟩
  | true =>
    have hn : ¬ (ff I 0 e d &&& ff I 0 e o = 0) := fun q => by have := hz.mp q; rw [hb] at this; cases this
    rw [if_neg hn, if_neg hn, if_pos rfl, if_pos rfl]
    obtain ⟨a, b⟩ := rel_mg1 h he hd ho hne
    refine ⟨rel_mg2 a he hd ho hne, ?_⟩
    rw [mm2_30]
    exact b
/-- all entries merged: the answers too -/
theorem rel_mgd (h : Rel I J L n m t ac mcs) (hd : d < 6) (ho : o < 6) (hne : d ≠ o) : ∀ k, k ≤ 10 → Rel (mgdM I 0 d o mcs k) (mmM J d o m k) L n m t ac mcs ∧ mmM J d o m k (30, 0, 0, 0) 3 + nI (100 * mmG J d o m k) = mgdR I 0 d o mcs k
  | 0, _ => by
    refine ⟨rel_congr h (fun _ _ _ _ => rfl) (fun j hj => ?_) (fun k hk _ => ?_), ?_⟩
    · rw [mmM, sset_eq, ud_ne _ _ (by omega), th_30 (by omega)]
    · rw [mmM, sset_ne _ _ (nek (by omega)), th_see (by show k ≠ 30; omega)]
    · rw [mmM, sset_eq, ud_eq]; rfl
  | k + 1, hk => by
    obtain ⟨ih, ig⟩ := rel_mgd h hd ho hne k (by omega)
    have e1 : mgdM I 0 d o mcs k (1, 0, 0, 0) 0 = I (1, 0, 0, 0) 0 := congrFun (mgd_see off1 k) 0
    obtain ⟨a, b⟩ := rel_mge ih (e := k) (by omega) hd ho hne
    rw [e1] at a
    rw [mgdM, mmM, mmG, mgdR, ← ig]
    refine ⟨a, ?_⟩
    rw [Nat.mul_add, ← nI_add, Int32.add_comm (nI (100 * mmG J d o m k)), ← Int32.add_assoc, b, Int32.add_assoc, Int32.add_assoc, Int32.add_comm (mgeR _ _ _ _ _)]
end KEEP6
