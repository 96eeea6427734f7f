section KEEP4
variable {I J I' J' : Mem} {L L' : Nat → Nat → Int32 → Int32} {n m t t' : Nat} {ac ac' mcs : Nat → Nat} {e d o : Nat}
theorem mo_ne {e2 k : Nat} (h : mo J e k = true) (he : e < 10) (he2 : e2 < 10) (hne : e2 ≠ e) : mo J e2 k = false := by
  cases q : mo J e2 k with
  | false => rfl
  | true => exact absurd (nI_inj (by omega) (by omega) ((mo_one q).symm.trans (mo_one h))) hne
/-! a global part that an act leaves alone -/
theorem gl_of (g : Gl I J n m t ac) (h1 : I' (1, 0, 0, 0) = I (1, 0, 0, 0)) (h2 : I' (2, 0, 0, 0) = I (2, 0, 0, 0)) (h4 : ∀ e, I' (4, 0, e, 0) = I (4, 0, e, 0)) (h5 : ∀ e, I' (5, 0, e, 0) = I (5, 0, e, 0))
    (h30 : ∀ j, j < 3 → J' (30, 0, 0, 0) j = J (30, 0, 0, 0) j) (h31 : J' (31, 0, 0, 0) = J (31, 0, 0, 0)) (h32 : J' (32, 0, 0, 0) = J (32, 0, 0, 0)) (h33 : J' (33, 0, 0, 0) = J (33, 0, 0, 0)) : Gl I' J' n m t ac := by
  refine ⟨?_, ?_, g.n10, ?_, ?_, ?_, fun e he => ?_, fun e q he hq => ?_, fun e q he hq => ?_, fun d hd => ?_, fun d hd => ?_⟩
  · rw [h1]; exact g.nI_
  · rw [h30 1 (by decide)]; exact g.nJ
  · rw [h30 2 (by decide)]; exact g.mJ
  · rw [h1]; exact g.tI
  · rw [h30 0 (by decide)]; exact g.tJ
  · rw [h4, h32]; exact g.ow e he
  · rw [h5, h33]; exact g.sh e q he hq
  · rw [h5]; exact g.sv e q he hq
  · rw [h2]; exact g.aI d hd
  · rw [h31]; exact g.aJ d hd
/-! forgetting -/
theorem for_rows {mc : Nat} : forgetM I 0 e d mc (9, 0, e, d) = upd (upd (I (9, 0, e, d)) 1 1) 0 0 ∧ forgetM I 0 e d mc (15, 0, e, d) = noteR I 0 e d mc ∧ forgetM I 0 e d mc (10, 0, e, d) = (fun _ => 0) ∧ forgetM I 0 e d mc (11, 0, e, d) = (fun _ => 0) ∧ forgetM I 0 e d mc (13, 0, e, d) = (fun _ => 0) := by
  unfold forgetM
  refine ⟨?_, ?_, ?_, ?_, ?_⟩
  · rw [sset_ne _ _ (nek (by decide)), sset_ne _ _ (nek (by decide)), sset_ne _ _ (nek (by decide)), sset_ne _ _ (nek (by decide)), sset_eq]
  · rw [sset_ne _ _ (nek (by decide)), sset_ne _ _ (nek (by decide)), sset_ne _ _ (nek (by decide)), sset_eq]
  · rw [sset_ne _ _ (nek (by decide)), sset_ne _ _ (nek (by decide)), sset_eq]
  · rw [sset_ne _ _ (nek (by decide)), sset_eq]
  · rw [sset_eq]
theorem for_19 {mc b2 e2 j : Nat} : forgetM I 0 e d mc (19, b2, e2, j) = unkM I 0 e d mc (19, b2, e2, j) := by
  unfold forgetM
  rw [sset_ne _ _ (nek (by decide)), sset_ne _ _ (nek (by decide)), sset_ne _ _ (nek (by decide)), sset_ne _ _ (nek (by decide)), sset_ne _ _ (nek (by decide))]
theorem for_oth {mc : Nat} {k : KN} (h19 : k.1 ≠ 19) (h : k.2 ≠ (0, e, d)) : forgetM I 0 e d mc k = I k := by
  unfold forgetM
  rw [sset_ne _ _ (fun z => h (congrArg (·.2) z)), sset_ne _ _ (fun z => h (congrArg (·.2) z)), sset_ne _ _ (fun z => h (congrArg (·.2) z)), sset_ne _ _ (fun z => h (congrArg (·.2) z)), sset_ne _ _ (fun z => h (congrArg (·.2) z)), unk_ne h19]
theorem mfN_out {x : Nat} (hx : ¬ (24 * (10 * d + e) ≤ x ∧ x < 24 * (10 * d + e) + 24)) : ∀ k, mfN J d e k x = J (39, 0, 0, 0) x
  | 0 => rf_out hx
  | k + 1 => by
    rw [mfN]
    split
    · rw [rf_out hx, mfN_out hx k]
    · exact mfN_out hx k
theorem mfN_in {c k : Nat} (hc : c < 24) : mfN J d e (k + 1) (cl d e c) = if mo J e k && kmk J d k then imax (mfN J d e k (cl d e c)) (J (41, 0, 0, 0) (24 * k + c)) else mfN J d e k (cl d e c) := by
  rw [mfN]
  split
  · rw [rf_in (by unfold cl; omega), show cl d e c - 24 * (10 * d + e) = c by unfold cl; omega]
  · rfl
theorem rl_note (hR : Rel I J L n m t ac mcs) (he : e < 10) (hd : d < 6) {c : Nat} (hc : c < 24) : ∀ k, k ≤ m → noteR I 0 e d (cntN (mo J e) k) c = mfN J d e k (cl d e c)
  | 0, _ => by
    rw [mfN, rf_in (by unfold cl; omega), cntN, noteR]
    unfold gM
    rw [(hR.cp e d he hd).no c hc, (hR.cp e d he hd).se c hc]
  | k + 1, hk => by
    have ih := rl_note hR he hd hc k (by omega)
    rw [mfN_in hc]
    cases hm : mo J e k with
    | false => rw [cntN_n hm, Bool.false_and, if_neg (by decide), ih]
    | true =>
      rw [cntN_y hm, Bool.true_and, noteR, rl_kmk hR.mk hR.tb he hd (show k < m by omega) hm]
      cases kmk J d k with
      | false => rw [if_neg (by decide), if_neg (by decide), ih]
      | true =>
        rw [if_pos rfl, if_pos rfl, ← ih, ← hR.mk.cp e k he (by omega) hm c hc]
        rfl
theorem mfo_rows : mforM J d e m (39, 0, 0, 0) = mfN J d e m ∧ mforM J d e m (35, 0, 0, 0) = rf (24 * (10 * d + e)) (24 * (10 * d + e) + 24) z0 (J (35, 0, 0, 0)) ∧ mforM J d e m (37, 0, 0, 0) = rf (24 * (10 * d + e)) (24 * (10 * d + e) + 24) z0 (J (37, 0, 0, 0)) ∧ mforM J d e m (42, 0, 0, 0) = mfS J d e m ∧ mforM J d e m (38, 0, 0, 0) = upd (J (38, 0, 0, 0)) (10 * d + e) (nI 1) ∧ mforM J d e m (34, 0, 0, 0) = upd (J (34, 0, 0, 0)) (10 * d + e) (nI 0) := by
  unfold mforM
  refine ⟨?_, ?_, ?_, ?_, ?_, ?_⟩
  · rw [sset_ne _ _ (nek (by decide)), sset_ne _ _ (nek (by decide)), sset_ne _ _ (nek (by decide)), sset_ne _ _ (nek (by decide)), sset_ne _ _ (nek (by decide)), sset_eq]
  · rw [sset_ne _ _ (nek (by decide)), sset_ne _ _ (nek (by decide)), sset_ne _ _ (nek (by decide)), sset_ne _ _ (nek (by decide)), sset_eq]
  · rw [sset_ne _ _ (nek (by decide)), sset_ne _ _ (nek (by decide)), sset_ne _ _ (nek (by decide)), sset_eq]
  · rw [sset_ne _ _ (nek (by decide)), sset_ne _ _ (nek (by decide)), sset_eq]
  · rw [sset_ne _ _ (nek (by decide)), sset_eq]
  · rw [sset_eq]
theorem blk_ne {d2 e2 c : Nat} (he : e < 10) (he2 : e2 < 10) (hc : c < 24) (h : ¬ (e2 = e ∧ d2 = d)) : ¬ (24 * (10 * d + e) ≤ cl d2 e2 c ∧ cl d2 e2 c < 24 * (10 * d + e) + 24) := fun z =>
  cl_ne (c := cl d2 e2 c - 24 * (10 * d + e)) he he2 (by omega) hc h (x := cl d2 e2 c) (by unfold cl at z ⊢; omega) rfl
theorem rel_forget (h : Rel I J L n m t ac mcs) (he : e < 10) (hd : d < 6) : Rel (forgetM I 0 e d (mcs e)) (mforM J d e m) L n m t ac mcs := by
  have hk := h.mk
  have hs : ∀ k : KN, k.1 ≠ 9 → k.1 ≠ 10 → k.1 ≠ 11 → k.1 ≠ 13 → k.1 ≠ 15 → k.1 ≠ 19 → forgetM I 0 e d (mcs e) k = I k := fun k a b c d e f => forget_see a b c d e f
  have hj : ∀ k : KN, k.1 ≠ 34 → k.1 ≠ 35 → k.1 ≠ 37 → k.1 ≠ 38 → k.1 ≠ 39 → k.1 ≠ 42 → mforM J d e m k = J k := fun k a b c d e f => mfor_see a b c d e f
  obtain ⟨j39, j35, j37, j42, j38, j34⟩ := mfo_rows (J := J) (d := d) (e := e) (m := m)
  obtain ⟨i9, i15, i10, i11, i13⟩ := for_rows (I := I) (d := d) (e := e) (mc := mcs e)
  have hmo : ∀ e2, mo (mforM J d e m) e2 = mo J e2 := fun e2 => by unfold mo; rw [hj _ (kz rfl) (kz rfl) (kz rfl) (kz rfl) (kz rfl) (kz rfl)]
  have hu : ∀ e2 j, forgetM I 0 e d (mcs e) (19, 0, e2, j) = if e2 = e ∧ j < mcs e then upd (I (19, 0, e2, j)) d (-1) else I (19, 0, e2, j) := fun e2 j => by
    rw [for_19]
    show (if (19 : Nat) = 19 ∧ (0 : Nat) = 0 ∧ e2 = e ∧ j < mcs e then upd (I (19, 0, e2, j)) d (-1) else I (19, 0, e2, j)) = _
    by_cases q : e2 = e ∧ j < mcs e
    · rw [if_pos q, if_pos ⟨rfl, rfl, q⟩]
    · rw [if_neg q, if_neg (fun z => q z.2.2)]
  refine ⟨gl_of h.gl (hs _ (kz rfl) (kz rfl) (kz rfl) (kz rfl) (kz rfl) (kz rfl)) (hs _ (kz rfl) (kz rfl) (kz rfl) (kz rfl) (kz rfl) (kz rfl)) (fun _ => hs _ (kz rfl) (kz rfl) (kz rfl) (kz rfl) (kz rfl) (kz rfl)) (fun _ => hs _ (kz rfl) (kz rfl) (kz rfl) (kz rfl) (kz rfl) (kz rfl)) (fun _ _ => congrFun (hj _ (kz rfl) (kz rfl) (kz rfl) (kz rfl) (kz rfl) (kz rfl)) _) (hj _ (kz rfl) (kz rfl) (kz rfl) (kz rfl) (kz rfl) (kz rfl)) (hj _ (kz rfl) (kz rfl) (kz rfl) (kz rfl) (kz rfl) (kz rfl)) (hj _ (kz rfl) (kz rfl) (kz rfl) (kz rfl) (kz rfl) (kz rfl)), fun e2 d2 he2 hd2 => ?_, ⟨fun e2 he2 => ?_, fun e2 k he2 hkm hmk c hc => ?_, fun e2 k he2 hkm hmk d2 hd2 => ?_, fun e2 j he2 hj2 c hc => ?_, fun e2 j he2 hj2 d2 hd2 => ?_, fun k d2 hkm hd2 => ?_⟩, h.acb, h.mb, h.tb⟩
  · have hc := h.cp e2 d2 he2 hd2
    by_cases q : e2 = e ∧ d2 = d
    · obtain ⟨rfl, rfl⟩ := q
      refine ⟨?_, ?_, fun c hcc => ?_, fun c hcc => ?_, fun c hcc => ?_, fun c hcc hne => ?_, fun c hcc hne => ?_, fun c hcc => ?_, fun c hcc => ?_⟩
      · rw [i9, j34, ud_eq, ud_eq]; rfl
      · rw [i9, j38, ud_ne _ _ (by decide), ud_eq, ud_eq]; rfl
      · rw [i10, j35, rf_in (by unfold cl; omega)]
      · rw [i13, j37, rf_in (by unfold cl; omega)]
      · rw [i15, j39, hk.ct e2 he2]; exact rl_note h he2 hd2 hcc m (Nat.le_refl m)
      · rw [i10] at hne; exact absurd rfl hne
      · rw [i10] at hne; exact absurd rfl hne
      · rw [i10, i_zero]; omega
      · rw [i13, i_zero]; omega
    · refine cp_of hc (fun kk hkk => for_oth (by show kk ≠ 19; omega) (fun z => q ⟨congrArg (·.2.1) z, congrArg (·.2.2) z⟩)) ?_ ?_ (fun c hcc => ⟨?_, ?_, ?_, ?_⟩) (fun _ _ _ _ _ => rfl) (fun _ => Nat.le_refl _)
      · rw [j34, ud_ne _ _ (by omega)]
      · rw [j38, ud_ne _ _ (by omega)]
      · rw [j35, rf_out (blk_ne he he2 hcc q)]
      · rw [hj _ (kz rfl) (kz rfl) (kz rfl) (kz rfl) (kz rfl) (kz rfl)]
      · rw [j37, rf_out (blk_ne he he2 hcc q)]
      · rw [j39, mfN_out (blk_ne he he2 hcc q)]
  · rw [hmo]; exact hk.ct e2 he2
  · rw [hmo] at hmk ⊢
    rw [hs _ (kz rfl) (kz rfl) (kz rfl) (kz rfl) (kz rfl) (kz rfl), hj _ (kz rfl) (kz rfl) (kz rfl) (kz rfl) (kz rfl) (kz rfl)]
    exact hk.cp e2 k he2 hkm hmk c hc
  · rw [hmo] at hmk ⊢
    have hlt := cnt_lt hkm hmk
    rw [← hk.ct e2 he2] at hlt
    have hsi := hk.si e2 k he2 hkm hmk d2 hd2
    have hsv := hk.sv e2 _ he2 hlt d2 hd2
    have x1 : (6 * k + d2) / 6 = k := by omega
    have x2 : (6 * k + d2) % 6 = d2 := by omega
    rw [hu, j42]
    unfold mfS
    rw [x1, x2]
    by_cases q : e2 = e
    · subst q
      rw [if_pos ⟨rfl, hlt⟩]
      by_cases z : d2 = d
      · subst z
        rw [ud_eq]
        by_cases y : 0 < J (42, 0, 0, 0) (6 * k + d2)
        · rw [if_pos ⟨rfl, hkm, hmk, y⟩]; decide
        · rw [if_neg (fun x => y x.2.2.2), ← hsi]
          have : I (19, 0, e2, cntN (mo J e2) k) d2 = -1 := by
            have e1 := i_suc hsv.1 (by have := h.tb; omega)
            rw [← hsi, Int32.lt_iff_toInt_lt, i_zero, e1] at y
            exact i_ext (by rw [i_mone]; omega)
          rw [this]
      · rw [ud_ne _ _ z, if_neg (fun x => z x.1)]
        exact hsi
    · rw [if_neg (fun x => q x.1), if_neg]
      · exact hsi
      · rintro ⟨-, -, x, -⟩
        rw [mo_ne hmk he2 he (fun y => q y.symm)] at x
        cases x
  · rw [hs _ (kz rfl) (kz rfl) (kz rfl) (kz rfl) (kz rfl) (kz rfl)]; exact hk.cv e2 j he2 hj2 c hc
  · rw [hu]
    have hsv := hk.sv e2 j he2 hj2 d2 hd2
    by_cases q : e2 = e ∧ j < mcs e
    · rw [if_pos q]
      by_cases z : d2 = d
      · subst z; rw [ud_eq, i_mone]; omega
      · rw [ud_ne _ _ z]; exact hsv
    · rw [if_neg q]; exact hsv
  · rw [j42]
    unfold mfS
    rw [if_neg (by omega)]
    exact hk.zz k d2 hkm hd2
/-! known on both -/
theorem rel_knw (h : Rel I J L n m t ac mcs) (he : e < 10) (hd : d < 6) (ho : o < 6) (hne : d ≠ o) : Rel (knwM I 0 e d o) (kboM J d o e) L n m t ac mcs := by
  have hs : ∀ k : KN, k.1 ≠ 9 → knwM I 0 e d o k = I k := fun k a => knw_see a
  have hj : ∀ k : KN, k.1 ≠ 34 → kboM J d o e k = J k := fun k a => kbo_see a
  have j34 : kboM J d o e (34, 0, 0, 0) = upd (upd (J (34, 0, 0, 0)) (10 * d + e) (nI 1)) (10 * o + e) (nI 1) := sset_eq _ _ _
  have r9 : ∀ e2 d2, knwM I 0 e d o (9, 0, e2, d2) = if e2 = e ∧ (d2 = d ∨ d2 = o) then upd (I (9, 0, e2, d2)) 0 1 else I (9, 0, e2, d2) := fun e2 d2 => by
    unfold knwM
    by_cases q : e2 = e ∧ d2 = o
    · obtain ⟨rfl, rfl⟩ := q
      rw [sset_eq, if_pos ⟨rfl, Or.inr rfl⟩]
    · rw [sset_ne _ _ (fun z => q ⟨congrArg (·.2.2.1) z, congrArg (·.2.2.2) z⟩)]
      by_cases q2 : e2 = e ∧ d2 = d
      · obtain ⟨rfl, rfl⟩ := q2
        rw [sset_eq, if_pos ⟨rfl, Or.inl rfl⟩]
      · rw [sset_ne _ _ (fun z => q2 ⟨congrArg (·.2.2.1) z, congrArg (·.2.2.2) z⟩), if_neg]
        rintro ⟨x, y | y⟩
        · exact q2 ⟨x, y⟩
        · exact q ⟨x, y⟩
  refine ⟨gl_of h.gl (hs _ (kz rfl)) (hs _ (kz rfl)) (fun _ => hs _ (kz rfl)) (fun _ => hs _ (kz rfl)) (fun _ _ => congrFun (hj _ (kz rfl)) _) (hj _ (kz rfl)) (hj _ (kz rfl)) (hj _ (kz rfl)), fun e2 d2 he2 hd2 => ?_, mk_of h.mk (fun _ _ _ => hs _ (kz rfl)) (fun _ _ _ => hs _ (kz rfl)) (hj _ (kz rfl)) (hj _ (kz rfl)) (hj _ (kz rfl)) (Nat.le_refl _), h.acb, h.mb, h.tb⟩
  have hc := h.cp e2 d2 he2 hd2
  have a : ∀ kk, (kk = 10 ∨ kk = 11 ∨ kk = 13 ∨ kk = 15) → knwM I 0 e d o (kk, 0, e2, d2) = I (kk, 0, e2, d2) := fun kk hk => hs _ (by show kk ≠ 9; omega)
  refine ⟨?_, ?_, fun c hcc => ?_, fun c hcc => ?_, fun c hcc => ?_, fun c hcc hne => ?_, fun c hcc hne => ?_, fun c hcc => ?_, fun c hcc => ?_⟩
  · rw [r9, j34]
    by_cases q : e2 = e ∧ d2 = o
    · rw [q.1, q.2, ud_eq, if_pos ⟨rfl, Or.inr rfl⟩, ud_eq]; rfl
    · rw [ud_ne _ _ (by omega)]
      by_cases q2 : e2 = e ∧ d2 = d
      · rw [q2.1, q2.2, ud_eq, if_pos ⟨rfl, Or.inl rfl⟩, ud_eq]; rfl
      · rw [ud_ne _ _ (by omega), if_neg (by omega)]; exact hc.kn
  · rw [r9, hj _ (kz rfl)]
    split
    · rw [ud_ne _ _ (by decide)]; exact hc.nt
    · exact hc.nt
  · rw [a 10 (by decide), hj _ (kz rfl)]; exact hc.ac_ c hcc
  · rw [a 13 (by decide), hj _ (kz rfl)]; exact hc.se c hcc
  · rw [a 15 (by decide), hj _ (kz rfl)]; exact hc.no c hcc
  · rw [a 10 (by decide)] at hne ⊢; rw [a 11 (by decide)]; exact hc.to c hcc hne
  · rw [a 10 (by decide)] at hne ⊢; rw [hj _ (kz rfl)]; exact hc.va c hcc hne
  · rw [a 10 (by decide)]; exact hc.av c hcc
  · rw [a 13 (by decide)]; exact hc.sv c hcc
end KEEP4
