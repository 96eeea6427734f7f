theorem nI_inj {a b : Nat} (ha : a < 2 ^ 31) (hb : b < 2 ^ 31) (h : nI a = nI b) : a = b := by
  have := congrArg Int32.toInt h
  rw [i_nI ha, i_nI hb] at this
  omega
section KEEP3
variable {I J I' J' : Mem} {L L' : Nat → Nat → Int32 → Int32} {n m t t' : Nat} {ac ac' mcs : Nat → Nat} {e d o : Nat}
/-! a deletion -/
theorem mdl_see {k : KN} (h30 : k.1 ≠ 30) (h31 : k.1 ≠ 31) (h40 : k.1 ≠ 40) (h41 : k.1 ≠ 41) (h42 : k.1 ≠ 42) : mdlM J d e m k = J k := by
  unfold mdlM
  rw [sset_ne _ _ (fun z => h30 (congrArg (·.1) z)), sset_ne _ _ (fun z => h42 (congrArg (·.1) z)), sset_ne _ _ (fun z => h41 (congrArg (·.1) z)), sset_ne _ _ (fun z => h40 (congrArg (·.1) z)), sset_ne _ _ (fun z => h31 (congrArg (·.1) z)), th_see h30]
theorem rel_delete (h : Rel I J L n m t ac mcs) (hd : d < 6) (he : e < 10) (hm6 : m < 600) (hac : ac d < 600) :
    Rel (addM (nxtM I 0 d) 0 e d (mcs e) (I (1, 0, 0, 0) 0)) (mdlM J d e m) L n (m + 1) t (mup ac d) (mup mcs e) := by
  have g := h.gl
  have hk := h.mk
  have s1 : ∀ k : KN, k.1 ≠ 2 → k.1 ≠ 4 → k.1 ≠ 18 → k.1 ≠ 19 → addM (nxtM I 0 d) 0 e d (mcs e) (I (1, 0, 0, 0) 0) k = I k := fun k h2 h4 h18 h19 => by
    rw [add_see (fun z => h4 (congrArg (·.1) z)) h18 h19, nxtM, sset_ne _ _ (fun z => h2 (congrArg (·.1) z))]
  have r4 : ∀ e2, addM (nxtM I 0 d) 0 e d (mcs e) (I (1, 0, 0, 0) 0) (4, 0, e2, 0) 0 = I (4, 0, e2, 0) 0 := fun e2 => by
    by_cases q : e2 = e
    · subst q; rw [add_4, ud_ne _ _ (by decide), nxtM, sset_ne _ _ (nek (by decide))]
    · rw [add_see (fun z => q (congrArg (·.2.2.1) z)) (kz rfl) (kz rfl), nxtM, sset_ne _ _ (nek (by decide))]
  have r2 : addM (nxtM I 0 d) 0 e d (mcs e) (I (1, 0, 0, 0) 0) (2, 0, 0, 0) = upd (I (2, 0, 0, 0)) d (I (2, 0, 0, 0) d + 1) := by
    rw [add_see (nek (by decide)) (kz rfl) (kz rfl), nxtM, sset_eq]
  have r18n : addM (nxtM I 0 d) 0 e d (mcs e) (I (1, 0, 0, 0) 0) (18, 0, e, mcs e) = fun c => imax 0 (I (13, 0, e, d) c) := by
    unfold addM markM
    rw [sset_ne _ _ (nek (by decide)), sset_ne _ _ (nek (by decide)), sset_eq, nxtM, sset_ne _ _ (nek (by decide))]
  have r19n : addM (nxtM I 0 d) 0 e d (mcs e) (I (1, 0, 0, 0) 0) (19, 0, e, mcs e) = upd (fun _ => -1) d (I (1, 0, 0, 0) 0) := by
    unfold addM markM
    rw [sset_ne _ _ (nek (by decide)), sset_eq]
  have r18 : ∀ e2 j, ¬ (e2 = e ∧ j = mcs e) → addM (nxtM I 0 d) 0 e d (mcs e) (I (1, 0, 0, 0) 0) (18, 0, e2, j) = I (18, 0, e2, j) := fun e2 j q => by
    unfold addM markM nxtM
    rw [sset_ne _ _ (nek (by decide)), sset_ne _ _ (nek (by decide)), sset_ne _ _ (fun z => q ⟨congrArg (·.2.2.1) z, congrArg (·.2.2.2) z⟩), sset_ne _ _ (nek (by decide))]
  have r19 : ∀ e2 j, ¬ (e2 = e ∧ j = mcs e) → addM (nxtM I 0 d) 0 e d (mcs e) (I (1, 0, 0, 0) 0) (19, 0, e2, j) = I (19, 0, e2, j) := fun e2 j q => by
    unfold addM markM nxtM
    rw [sset_ne _ _ (nek (by decide)), sset_ne _ _ (fun z => q ⟨congrArg (·.2.2.1) z, congrArg (·.2.2.2) z⟩), sset_ne _ _ (nek (by decide)), sset_ne _ _ (nek (by decide))]
  have j30 : mdlM J d e m (30, 0, 0, 0) = upd (thM J 0 (30, 0, 0, 0)) 2 (nI (m + 1)) := sset_eq _ _ _
  have j31 : mdlM J d e m (31, 0, 0, 0) = upd (J (31, 0, 0, 0)) d (J (31, 0, 0, 0) d + nI 1) := by
    unfold mdlM
    rw [sset_ne _ _ (nek (by decide)), sset_ne _ _ (nek (by decide)), sset_ne _ _ (nek (by decide)), sset_ne _ _ (nek (by decide)), sset_eq]
  have j40 : mdlM J d e m (40, 0, 0, 0) = upd (J (40, 0, 0, 0)) m (nI e) := by
    unfold mdlM
    rw [sset_ne _ _ (nek (by decide)), sset_ne _ _ (nek (by decide)), sset_ne _ _ (nek (by decide)), sset_eq]
  have j41 : mdlM J d e m (41, 0, 0, 0) = mdC J d e m 24 := by
    unfold mdlM
    rw [sset_ne _ _ (nek (by decide)), sset_ne _ _ (nek (by decide)), sset_eq]
  have j42 : mdlM J d e m (42, 0, 0, 0) = upd (J (42, 0, 0, 0)) (6 * m + d) (J (30, 0, 0, 0) 0 + nI 1) := by
    unfold mdlM
    rw [sset_ne _ _ (nek (by decide)), sset_eq]
  have jo : ∀ k : KN, k.1 ≠ 30 → k.1 ≠ 31 → k.1 ≠ 40 → k.1 ≠ 41 → k.1 ≠ 42 → mdlM J d e m k = J k := fun k a b c d e => mdl_see a b c d e
  have hle : ∀ x, ac x ≤ mup ac d x := fun x => by
    by_cases q : x = d
    · subst q; rw [mup_eq]; omega
    · rw [mup_ne q]; exact Nat.le_refl _
  have hmo : ∀ e2 k, k < m → mo (mdlM J d e m) e2 k = mo J e2 k := fun e2 k hk => by
    unfold mo
    rw [j40, ud_ne _ _ (by omega)]
  have hmm : ∀ e2, e2 < 10 → mo (mdlM J d e m) e2 m = decide (e2 = e) := fun e2 he2 => by
    unfold mo
    rw [j40, ud_eq]
    by_cases q : e2 = e
    · subst q; rw [decide_eq_true rfl, decide_eq_true rfl]
    · rw [decide_eq_false q, decide_eq_false (fun z => q (nI_inj (by omega) (by omega) z).symm)]
  have hcn : ∀ e2 k, k ≤ m → cntN (mo (mdlM J d e m) e2) k = cntN (mo J e2) k := fun e2 k hk => cntN_congr (fun i hi => hmo e2 i (by omega))
  have hct : ∀ e2, e2 < 10 → mup mcs e e2 = cntN (mo (mdlM J d e m) e2) (m + 1) := fun e2 he2 => by
    rw [cntN, hcn e2 m (Nat.le_refl m), hmm e2 he2, ← hk.ct e2 he2]
    by_cases q : e2 = e
    · subst q; rw [mup_eq, decide_eq_true rfl]; rfl
    · rw [mup_ne q, decide_eq_false q]; rfl
  have aI := g.aI d hd
  have aJ := g.aJ d hd
  refine ⟨⟨?_, ?_, g.n10, ?_, ?_, ?_, fun e2 he2 => ?_, fun e2 q he2 hq => ?_, fun e2 q he2 hq => ?_, fun d2 hd2 => ?_, fun d2 hd2 => ?_⟩, fun e2 d2 he2 hd2 => ?_, ⟨hct, fun e2 k he2 hkm hmk c hc => ?_, fun e2 k he2 hkm hmk d2 hd2 => ?_, fun e2 j he2 hj c hc => ?_, fun e2 j he2 hj d2 hd2 => ?_, fun k d2 hkm hd2 => ?_⟩, fun d2 hd2 => ?_, by omega, h.tb⟩
  · rw [s1 _ (kz rfl) (kz rfl) (kz rfl) (kz rfl)]; exact g.nI_
  · rw [j30, ud_ne _ _ (by decide), th_30 (by decide)]; exact g.nJ
  · rw [j30, ud_eq]
  · rw [s1 _ (kz rfl) (kz rfl) (kz rfl) (kz rfl)]; exact g.tI
  · rw [j30, ud_ne _ _ (by decide), th_30 (by decide)]; exact g.tJ
  · rw [r4, jo _ (kz rfl) (kz rfl) (kz rfl) (kz rfl) (kz rfl)]; exact g.ow e2 he2
  · rw [s1 _ (kz rfl) (kz rfl) (kz rfl) (kz rfl), jo _ (kz rfl) (kz rfl) (kz rfl) (kz rfl) (kz rfl)]; exact g.sh e2 q he2 hq
  · rw [s1 _ (kz rfl) (kz rfl) (kz rfl) (kz rfl)]; exact g.sv e2 q he2 hq
  · rw [r2]
    by_cases q : d2 = d
    · subst q; rw [ud_eq, mup_eq, aI, ← nI_one, nI_add]
    · rw [ud_ne _ _ q, mup_ne q]; exact g.aI d2 hd2
  · rw [j31]
    by_cases q : d2 = d
    · subst q; rw [ud_eq, mup_eq, aJ, nI_add]
    · rw [ud_ne _ _ q, mup_ne q]; exact g.aJ d2 hd2
  · refine cp_of (h.cp e2 d2 he2 hd2) (fun kk hkk => s1 _ (by show kk ≠ 2; omega) (by show kk ≠ 4; omega) (by show kk ≠ 18; omega) (by show kk ≠ 19; omega)) ?_ ?_ (fun c _ => ⟨?_, ?_, ?_, ?_⟩) (fun _ _ _ _ _ => rfl) hle <;> rw [jo _ (kz rfl) (kz rfl) (kz rfl) (kz rfl) (kz rfl)]
  · by_cases q : k = m
    · subst q
      rw [hmm e2 he2] at hmk
      have q2 := of_decide_eq_true hmk
      subst q2
      rw [hcn e2 k (Nat.le_refl k), ← hk.ct e2 he2, r18n, j41]
      unfold mdC
      rw [rf_in (by omega), Nat.add_sub_cancel_left]
      have hs := (h.cp e2 d he2 hd).sv c hc
      have e1 := (h.cp e2 d he2 hd).se c hc
      rw [← e1]
      apply i_ext
      rw [i_imax, i_zero]
      omega
    · have hkm2 : k < m := by omega
      rw [hmo e2 k hkm2] at hmk
      have hlt := cnt_lt hkm2 hmk
      rw [← hk.ct e2 he2] at hlt
      rw [hcn e2 k (by omega), r18 e2 _ (fun z => by rw [z.1] at hlt; have := z.2; rw [z.1] at this; omega), j41]
      unfold mdC
      rw [rf_out (by omega)]
      exact hk.cp e2 k he2 hkm2 hmk c hc
  · by_cases q : k = m
    · subst q
      rw [hmm e2 he2] at hmk
      have q2 := of_decide_eq_true hmk
      subst q2
      rw [hcn e2 k (Nat.le_refl k), ← hk.ct e2 he2, r19n, j42]
      by_cases z : d2 = d
      · subst z
        rw [ud_eq, ud_eq, g.tI, g.tJ]
        rfl
      · rw [ud_ne _ _ z, ud_ne _ _ (by omega), hk.zz k d2 (Nat.le_refl k) hd2]
        decide
    · have hkm2 : k < m := by omega
      rw [hmo e2 k hkm2] at hmk
      have hlt := cnt_lt hkm2 hmk
      rw [← hk.ct e2 he2] at hlt
      rw [hcn e2 k (by omega), r19 e2 _ (fun z => by rw [z.1] at hlt; have := z.2; rw [z.1] at this; omega), j42, ud_ne _ _ (by omega)]
      exact hk.si e2 k he2 hkm2 hmk d2 hd2
  · by_cases q : e2 = e ∧ j = mcs e
    · obtain ⟨rfl, rfl⟩ := q
      rw [r18n, i_imax, i_zero]
      omega
    · rw [r18 e2 j q]
      refine hk.cv e2 j he2 ?_ c hc
      by_cases z : e2 = e
      · subst z; rw [mup_eq] at hj; have : ¬ j = mcs e2 := fun y => q ⟨rfl, y⟩; omega
      · rwa [mup_ne z] at hj
  · by_cases q : e2 = e ∧ j = mcs e
    · obtain ⟨rfl, rfl⟩ := q
      rw [r19n]
      by_cases z : d2 = d
      · subst z
        rw [ud_eq, g.tI, i_nI (by have := h.tb; omega)]
        omega
      · rw [ud_ne _ _ z, i_mone]
        omega
    · rw [r19 e2 j q]
      refine hk.sv e2 j he2 ?_ d2 hd2
      by_cases z : e2 = e
      · subst z; rw [mup_eq] at hj; have : ¬ j = mcs e2 := fun y => q ⟨rfl, y⟩; omega
      · rwa [mup_ne z] at hj
  · rw [j42, ud_ne _ _ (by omega)]
    exact hk.zz k d2 (by omega) hd2
  · by_cases q : d2 = d
    · subst q; rw [mup_eq]; omega
    · rw [mup_ne q]; exact h.acb d2 hd2
/-! a sharing -/
theorem shr_oth {p : Nat} {F : Int32} {k : KN} (h5 : k ≠ (5, 0, e, 0)) (h : ∀ d, d < 6 → d / 2 = p → k.2 ≠ (0, e, d)) : ∀ i, i ≤ 6 → shrM I 0 e p F i k = I k
  | 0, _ => by rw [shrM, sset_ne _ _ h5]
  | i + 1, hi => by
    rw [shrM]
    by_cases q : i / 2 = p
    · rw [if_pos q]
      unfold keepM
      have hh := h i (by omega) q
      rw [sset_ne _ _ (fun z => hh (congrArg (·.2) z)), sset_ne _ _ (fun z => hh (congrArg (·.2) z)), sset_ne _ _ (fun z => hh (congrArg (·.2) z)), shr_oth h5 h i (by omega)]
    · rw [if_neg q, shr_oth h5 h i (by omega)]
theorem keep_at {F : Int32} : keepM F I 0 e d (10, 0, e, d) = keepR F (I (10, 0, e, d)) ∧ keepM F I 0 e d (11, 0, e, d) = keepR F (I (11, 0, e, d)) ∧ keepM F I 0 e d (13, 0, e, d) = keepR F (I (13, 0, e, d)) := by
  unfold keepM
  refine ⟨?_, ?_, ?_⟩
  · rw [sset_ne _ _ (nek (by decide)), sset_ne _ _ (nek (by decide)), sset_eq]
  · rw [sset_ne _ _ (nek (by decide)), sset_eq]
  · rw [sset_eq]
theorem keep_oth {F : Int32} {k : KN} (h : k.2 ≠ (0, e, d)) : keepM F I 0 e d k = I k := by
  unfold keepM
  rw [sset_ne _ _ (fun z => h (congrArg (·.2) z)), sset_ne _ _ (fun z => h (congrArg (·.2) z)), sset_ne _ _ (fun z => h (congrArg (·.2) z))]
theorem shr_at {p : Nat} {F : Int32} {kk : Nat} (hkk : kk = 10 ∨ kk = 11 ∨ kk = 13) (hp : d / 2 = p) : ∀ i, shrM I 0 e p F i (kk, 0, e, d) = if d < i then keepR F (I (kk, 0, e, d)) else I (kk, 0, e, d)
  | 0 => by
    rw [shrM, sset_ne _ _ (fun z => by have : kk = 5 := congrArg (·.1) z; omega), if_neg (Nat.not_lt_zero _)]
  | i + 1 => by
    rw [shrM]
    by_cases z : d = i
    · subst z
      rw [if_pos hp, if_pos (Nat.lt_succ_self _)]
      have ih := shr_at (F := F) hkk hp d
      rw [if_neg (Nat.lt_irrefl _)] at ih
      have := keep_at (I := shrM I 0 e p F d) (e := e) (d := d) (F := F)
      rcases hkk with q | q | q
      · subst q; rw [this.1, ih]
      · subst q; rw [this.2.1, ih]
      · subst q; rw [this.2.2, ih]
    · have ih := shr_at (F := F) hkk hp i
      have e1 : (d < i + 1) = (d < i) := propext (by omega)
      simp only [e1]
      split
      · rw [keep_oth (fun y => z (congrArg (·.2.2) y)), ih]
      · exact ih
theorem shR_at {F : Int32} {q c d2 e2 : Nat} {r : Nat → Int32} (he : e < 10) (he2 : e2 < 10) (hc : c < 24) : shR F q e r 2 (cl d2 e2 c) = if e2 = e ∧ d2 / 2 = q then (if bit F (c / 6) then r (cl d2 e2 c) else 0) else r (cl d2 e2 c) := by
  have hin : ∀ i g (f : Nat → Int32), rf (24 * (10 * (2 * q + i) + e)) (24 * (10 * (2 * q + i) + e) + 24) g f (cl d2 e2 c) = if e2 = e ∧ d2 = 2 * q + i then g (cl d2 e2 c) else f (cl d2 e2 c) := fun i g f => by
    by_cases z : e2 = e ∧ d2 = 2 * q + i
    · obtain ⟨rfl, rfl⟩ := z
      rw [if_pos ⟨rfl, rfl⟩, rf_in (by unfold cl; omega)]
    · rw [if_neg z, rf_out (fun y => cl_ne (c := cl d2 e2 c - 24 * (10 * (2 * q + i) + e)) he he2 (by omega) hc z (x := cl d2 e2 c) (by unfold cl at y ⊢; omega) rfl)]
  have hg : ∀ i (f : Nat → Int32), e2 = e ∧ d2 = 2 * q + i → shG F (24 * (10 * (2 * q + i) + e)) f (cl d2 e2 c) = if bit F (c / 6) then f (cl d2 e2 c) else 0 := fun i f z => by
    obtain ⟨rfl, rfl⟩ := z
    unfold shG
    rw [show (cl (2 * q + i) e2 c - 24 * (10 * (2 * q + i) + e2)) / 6 = c / 6 by unfold cl; omega]
  have h1 : shR F q e r 1 (cl d2 e2 c) = if e2 = e ∧ d2 = 2 * q + 0 then shG F (24 * (10 * (2 * q + 0) + e)) r (cl d2 e2 c) else r (cl d2 e2 c) := hin 0 _ _
  have h2 : shR F q e r 2 (cl d2 e2 c) = if e2 = e ∧ d2 = 2 * q + 1 then shG F (24 * (10 * (2 * q + 1) + e)) (shR F q e r 1) (cl d2 e2 c) else shR F q e r 1 (cl d2 e2 c) := hin 1 _ _
  rw [h2]
  by_cases z1 : e2 = e ∧ d2 = 2 * q + 1
  · rw [if_pos z1, hg 1 _ z1, h1, if_neg (show ¬ (e2 = e ∧ d2 = 2 * q + 0) by omega), if_pos (show e2 = e ∧ d2 / 2 = q by omega)]
  · rw [if_neg z1, h1]
    by_cases z0 : e2 = e ∧ d2 = 2 * q + 0
    · rw [if_pos z0, hg 0 _ z0, if_pos (show e2 = e ∧ d2 / 2 = q by omega)]
    · rw [if_neg z0, if_neg (show ¬ (e2 = e ∧ d2 / 2 = q) by omega)]
theorem msh_see {q : Nat} {F : Int32} {k : KN} (h30 : k.1 ≠ 30) (h33 : k.1 ≠ 33) (h35 : k.1 ≠ 35) (h37 : k.1 ≠ 37) : mshM J e q F k = J k := by
  unfold mshM
  rw [sset_ne _ _ (fun z => h37 (congrArg (·.1) z)), sset_ne _ _ (fun z => h35 (congrArg (·.1) z)), sset_ne _ _ (fun z => h33 (congrArg (·.1) z)), th_see h30]
theorem rel_share (h : Rel I J L n m t ac mcs) (he : e < 10) {q : Nat} (hq : q < 3) {x : Nat} (hx : x < 16) {F : Int32} (hF : F = nI x) : Rel (shrM I 0 e q F 6) (mshM J e q F) L n m t ac mcs := by
  have g := h.gl
  have s1 : ∀ k : KN, k.1 ≠ 5 → k.1 ≠ 10 → k.1 ≠ 11 → k.1 ≠ 13 → shrM I 0 e q F 6 k = I k := fun k a b c d => shr_see a b c d 6
  have j30 : mshM J e q F (30, 0, 0, 0) = thM J 0 (30, 0, 0, 0) := by
    unfold mshM
    rw [sset_ne _ _ (nek (by decide)), sset_ne _ _ (nek (by decide)), sset_ne _ _ (nek (by decide))]
  have j33 : mshM J e q F (33, 0, 0, 0) = upd (J (33, 0, 0, 0)) (3 * e + q) F := by
    unfold mshM
    rw [sset_ne _ _ (nek (by decide)), sset_ne _ _ (nek (by decide)), sset_eq]
  have j35 : mshM J e q F (35, 0, 0, 0) = shR F q e (J (35, 0, 0, 0)) 2 := by
    unfold mshM
    rw [sset_ne _ _ (nek (by decide)), sset_eq]
  have j37 : mshM J e q F (37, 0, 0, 0) = shR F q e (J (37, 0, 0, 0)) 2 := sset_eq _ _ _
  have jo : ∀ k : KN, k.1 ≠ 30 → k.1 ≠ 33 → k.1 ≠ 35 → k.1 ≠ 37 → mshM J e q F k = J k := fun k a b c d => msh_see a b c d
  have k0 : ∀ i, shrM I 0 e q F i (5, 0, e, 0) = upd (I (5, 0, e, 0)) q F := fun i => by
    induction i with
    | zero => exact sset_eq _ _ _
    | succ i ih =>
      rw [shrM]
      split
      · rw [keep_see (kz rfl) (kz rfl) (kz rfl), ih]
      · exact ih
  have k5 : ∀ e2, e2 ≠ e → shrM I 0 e q F 6 (5, 0, e2, 0) = I (5, 0, e2, 0) := fun e2 z => shr_oth (fun y => z (congrArg (·.2.2.1) y)) (fun d _ _ y => z (congrArg (·.2.1) y)) 6 (Nat.le_refl 6)
  refine ⟨⟨?_, ?_, g.n10, ?_, ?_, ?_, fun e2 he2 => ?_, fun e2 q2 he2 hq2 => ?_, fun e2 q2 he2 hq2 => ?_, fun d2 hd2 => ?_, fun d2 hd2 => ?_⟩, fun e2 d2 he2 hd2 => ?_, ?_, h.acb, h.mb, h.tb⟩
  · rw [s1 _ (kz rfl) (kz rfl) (kz rfl) (kz rfl)]; exact g.nI_
  · rw [j30, th_30 (by decide)]; exact g.nJ
  · rw [j30, th_30 (by decide)]; exact g.mJ
  · rw [s1 _ (kz rfl) (kz rfl) (kz rfl) (kz rfl)]; exact g.tI
  · rw [j30, th_30 (by decide)]; exact g.tJ
  · rw [s1 _ (kz rfl) (kz rfl) (kz rfl) (kz rfl), jo _ (kz rfl) (kz rfl) (kz rfl) (kz rfl)]; exact g.ow e2 he2
  · rw [j33]
    by_cases z : e2 = e
    · subst z
      rw [k0 6]
      by_cases y : q2 = q
      · subst y; rw [ud_eq, ud_eq]
      · rw [ud_ne _ _ y, ud_ne _ _ (by omega)]; exact g.sh e2 q2 he2 hq2
    · rw [k5 e2 z, ud_ne _ _ (by omega)]; exact g.sh e2 q2 he2 hq2
  · by_cases z : e2 = e
    · subst z
      rw [k0 6]
      by_cases y : q2 = q
      · subst y; rw [ud_eq]; exact ⟨x, hx, hF⟩
      · rw [ud_ne _ _ y]; exact g.sv e2 q2 he2 hq2
    · rw [k5 e2 z]; exact g.sv e2 q2 he2 hq2
  · rw [s1 _ (kz rfl) (kz rfl) (kz rfl) (kz rfl)]; exact g.aI d2 hd2
  · rw [jo _ (kz rfl) (kz rfl) (kz rfl) (kz rfl)]; exact g.aJ d2 hd2
  · have hc := h.cp e2 d2 he2 hd2
    have a34 := jo (34, 0, 0, 0) (kz rfl) (kz rfl) (kz rfl) (kz rfl)
    have a36 := jo (36, 0, 0, 0) (kz rfl) (kz rfl) (kz rfl) (kz rfl)
    have a38 := jo (38, 0, 0, 0) (kz rfl) (kz rfl) (kz rfl) (kz rfl)
    have a39 := jo (39, 0, 0, 0) (kz rfl) (kz rfl) (kz rfl) (kz rfl)
    by_cases z : e2 = e ∧ d2 / 2 = q
    · obtain ⟨rfl, z2⟩ := z
      have a10 := shr_at (I := I) (e := e2) (d := d2) (F := F) (kk := 10) (by decide) z2 6
      have a11 := shr_at (I := I) (e := e2) (d := d2) (F := F) (kk := 11) (by decide) z2 6
      have a13 := shr_at (I := I) (e := e2) (d := d2) (F := F) (kk := 13) (by decide) z2 6
      rw [if_pos hd2] at a10 a11 a13
      have n10 : ∀ c, keepR F (I (10, 0, e2, d2)) c ≠ 0 → bit F (c / 6) = true := fun c hne => by
        cases hb : bit F (c / 6) with
        | true => rfl
        | false => exact absurd (show keepR F (I (10, 0, e2, d2)) c = 0 by unfold keepR; rw [hb]; rfl) hne
      have k10 : ∀ c, bit F (c / 6) = true → ∀ r : Nat → Int32, keepR F r c = r c := fun c hb r => by unfold keepR; rw [hb]; rfl
      refine ⟨?_, ?_, fun c hcc => ?_, fun c hcc => ?_, fun c hcc => ?_, fun c hcc hne => ?_, fun c hcc hne => ?_, fun c hcc => ?_, fun c hcc => ?_⟩
      · rw [s1 _ (kz rfl) (kz rfl) (kz rfl) (kz rfl), a34]; exact hc.kn
      · rw [s1 _ (kz rfl) (kz rfl) (kz rfl) (kz rfl), a38]; exact hc.nt
      · rw [a10, j35, shR_at he he2 hcc, if_pos ⟨rfl, z2⟩, ← hc.ac_ c hcc]; rfl
      · rw [a13, j37, shR_at he he2 hcc, if_pos ⟨rfl, z2⟩, ← hc.se c hcc]; rfl
      · rw [s1 _ (kz rfl) (kz rfl) (kz rfl) (kz rfl), a39]; exact hc.no c hcc
      · rw [a10] at hne ⊢
        have hb := n10 c hne
        rw [k10 c hb] at hne ⊢
        rw [a11, k10 c hb]
        exact hc.to c hcc hne
      · rw [a10] at hne ⊢
        have hb := n10 c hne
        rw [k10 c hb] at hne ⊢
        rw [a36]
        exact hc.va c hcc hne
      · rw [a10]
        unfold keepR
        split
        · exact hc.av c hcc
        · rw [i_zero]; omega
      · rw [a13]
        unfold keepR
        split
        · exact hc.sv c hcc
        · rw [i_zero]; omega
    · refine cp_of hc (fun kk hkk => shr_oth (fun y => by have : kk = 5 := congrArg (·.1) y; omega) (fun d3 h3 h4 y => z ⟨congrArg (·.2.1) y, by have : d2 = d3 := congrArg (·.2.2) y; rw [this]; exact h4⟩) 6 (Nat.le_refl 6)) (by rw [a34]) (by rw [a38]) (fun c hcc => ⟨?_, by rw [a36], ?_, by rw [a39]⟩) (fun _ _ _ _ _ => rfl) (fun _ => Nat.le_refl _)
      · rw [j35, shR_at he he2 hcc, if_neg z]
      · rw [j37, shR_at he he2 hcc, if_neg z]
  · exact mk_of h.mk (fun e j _ => s1 _ (kz rfl) (kz rfl) (kz rfl) (kz rfl)) (fun e j _ => s1 _ (kz rfl) (kz rfl) (kz rfl) (kz rfl)) (jo _ (kz rfl) (kz rfl) (kz rfl) (kz rfl)) (jo _ (kz rfl) (kz rfl) (kz rfl) (kz rfl)) (jo _ (kz rfl) (kz rfl) (kz rfl) (kz rfl)) (Nat.le_refl _)
end KEEP3
