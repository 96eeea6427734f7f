def sumN (f : Nat → Nat) : Nat → Nat
  | 0 => 0
  | k + 1 => sumN f k + f k
theorem sumN_congr {f g : Nat → Nat} : ∀ {n : Nat}, (∀ j, j < n → f j = g j) → sumN f n = sumN g n
  | 0, _ => rfl
  | n + 1, h => by rw [sumN, sumN, sumN_congr (fun j hj => h j (Nat.lt_succ_of_lt hj)), h n (Nat.lt_succ_self n)]
theorem sumN_add (f g : Nat → Nat) : ∀ n, sumN (fun j => f j + g j) n = sumN f n + sumN g n
  | 0 => rfl
  | n + 1 => by rw [sumN, sumN, sumN, sumN_add f g n]; omega
theorem sumN_zero : ∀ n, sumN (fun _ => 0) n = 0
  | 0 => rfl
  | n + 1 => by rw [sumN, sumN_zero n]
theorem sumN_swap (c : Nat → Nat → Nat) (D : Nat) : ∀ n, sumN (fun e => sumN (fun d => c e d) D) n = sumN (fun d => sumN (fun e => c e d) n) D
  | 0 => by rw [sumN]; exact (sumN_zero D).symm
  | n + 1 => by
    rw [sumN, sumN_swap c D n, ← sumN_add]
    rfl
section PASS2
variable {I J I' J' X Y : Mem} {L L' : Nat → Nat → Int32 → Int32} {n m t t' : Nat} {ac ac' mcs : Nat → Nat} {e d o e2 d2 : Nat} {month : Int32}
/-! old on a device: here and there -/
theorem rl_agn0 (h : Mk I J m t mcs) (ht : t ≤ 20000) (he : e < 10) (hd : d < 6) : ∀ k, k ≤ m → (agN J d e k = 0 → (nwm I 0 e d (cntN (mo J e) k)).toInt = -1) ∧ (0 < agN J d e k → 0 ≤ (nwm I 0 e d (cntN (mo J e) k)).toInt)
  | 0, _ => ⟨fun _ => by rw [cntN, nwm, i_mone], fun q => absurd q (by simp [agN, cntN])⟩
  | k + 1, hk => by
    have ih := rl_agn0 h ht he hd k (by omega)
    have e0 : agN J d e (k + 1) = agN J d e k + if mo J e k && kmk J d k then 1 else 0 := rfl
    rw [e0]
    cases hm : mo J e k with
    | false => rw [cntN_n hm, Bool.false_and]; exact ih
    | true =>
      have hj : cntN (mo J e) k < mcs e := by rw [h.ct e he]; exact cnt_lt (by omega) hm
      have hs := h.sv e _ he hj d hd
      have hq := rl_kmk h ht he hd (show k < m by omega) hm
      rw [cntN_y hm, nwm, i_imax, Bool.true_and, ← hq]
      cases hkn : kno (I (19, 0, e, cntN (mo J e) k) d) with
      | true =>
        have : (I (19, 0, e, cntN (mo J e) k) d).toInt ≠ -1 := fun z => by
          unfold kno at hkn
          rw [if_pos (i_ext (z.trans i_mone.symm))] at hkn
          cases hkn
        rw [if_pos rfl]
        omega
      | false =>
        have : (I (19, 0, e, cntN (mo J e) k) d).toInt = -1 := by
          unfold kno at hkn
          by_cases q : I (19, 0, e, cntN (mo J e) k) d = -1
          · rw [q, i_mone]
          · rw [if_neg q] at hkn; cases hkn
        have hw := rl_nwm_le (e := e) (d := d) I (cntN (mo J e) k) (fun i hi => h.sv e i he (by omega) d hd)
        rw [if_neg (by decide), this]
        omega
theorem age_le {t : Nat} {a : Int32} (ht : t ≤ 20000) (h : -1 ≤ a.toInt ∧ a.toInt ≤ t) : decide (nI t + nI 1 - (a + 1) ≤ nI 12) = decide ((t : Int) - a.toInt ≤ 12) := by
  have et1 : (nI t + nI 1).toInt = t + 1 := by rw [nI_one, i_suc (by rw [i_nI (by omega)]; omega) (by rw [i_nI (by omega)]; omega), i_nI (by omega)]
  have e1 := i_suc h.1 (by omega)
  have eb : (nI t + nI 1 - (a + 1)).toInt = t - a.toInt := by
    rw [Int32.toInt_sub, et1, e1, Int.bmod_eq_of_le (by omega) (by omega)]
    omega
  have e12 : (nI 12).toInt = 12 := by decide
  simp only [Int32.le_iff_toInt_le, eb, e12]
theorem age_le2 {t : Nat} {a : Int32} (ht : t ≤ 20000) (h : -1 ≤ a.toInt ∧ a.toInt ≤ t) : decide (nI t - a ≤ nI 12) = decide ((t : Int) - a.toInt ≤ 12) := by
  have eb : (nI t - a).toInt = t - a.toInt := by
    rw [Int32.toInt_sub, i_nI (by omega), Int.bmod_eq_of_le (by omega) (by omega)]
  have e12 : (nI 12).toInt = 12 := by decide
  simp only [Int32.le_iff_toInt_le, eb, e12]
theorem rl_agC (hR : Rel I J L n m t ac mcs) (he : e < 10) (hd : d < 6) : ∀ k, k ≤ m → agC J d e k = (decide (agN J d e k = 0) || !decide ((t : Int) - (nwm I 0 e d (cntN (mo J e) k)).toInt ≤ 12))
  | 0, _ => by simp [agC, agN, cntN]
  | k + 1, hk => by
    have h := hR.mk
    have ht := hR.tb
    have ih := rl_agC hR he hd k (by omega)
    have e0 : agN J d e (k + 1) = agN J d e k + if mo J e k && kmk J d k then 1 else 0 := rfl
    rw [agC, e0]
    cases hm : mo J e k with
    | false => rw [cntN_n hm, Bool.false_and, if_neg (by decide), if_neg (by decide)]; exact ih
    | true =>
      have hj : cntN (mo J e) k < mcs e := by rw [h.ct e he]; exact cnt_lt (by omega) hm
      have hs := h.sv e _ he hj d hd
      have hi := h.si e k he (by omega) hm d hd
      have hq := rl_kmk h ht he hd (show k < m by omega) hm
      have hw := rl_nwm_le (e := e) (d := d) I (cntN (mo J e) k) (fun i hi => h.sv e i he (by omega) d hd)
      have ha := rl_agn0 h ht he hd k (by omega)
      rw [cntN_y hm, nwm, i_imax, Bool.true_and, ← hq]
      cases hkn : kno (I (19, 0, e, cntN (mo J e) k) d) with
      | true =>
        have hs0 : (I (19, 0, e, cntN (mo J e) k) d).toInt ≠ -1 := fun z => by
          unfold kno at hkn
          rw [if_pos (i_ext (z.trans i_mone.symm))] at hkn
          cases hkn
        rw [if_pos rfl, if_pos rfl, ih]
        unfold agQ
        rw [hR.gl.tJ, ← hi, age_le ht hs]
        generalize (nwm I 0 e d (cntN (mo J e) k)).toInt = w at ha hw ⊢
        generalize (I (19, 0, e, cntN (mo J e) k) d).toInt = s at hs hs0 ⊢
        generalize agN J d e k = a at ha ⊢
        by_cases q0 : a = 0
        · have := ha.1 q0
          rw [decide_eq_true q0, decide_eq_false (show ¬ a + 1 = 0 by omega), show max w s = s by omega]
          simp
        · have := ha.2 (by omega)
          rw [decide_eq_false q0, decide_eq_false (show ¬ a + 1 = 0 by omega), Bool.false_or, Bool.false_or]
          by_cases q1 : (t : Int) - w ≤ 12
          · rw [decide_eq_true q1]
            by_cases q2 : (t : Int) - s ≤ 12
            · rw [decide_eq_true (show (t : Int) - max w s ≤ 12 by omega)]; rfl
            · rw [decide_eq_true (show (t : Int) - max w s ≤ 12 by omega)]; rfl
          · rw [decide_eq_false q1]
            by_cases q2 : (t : Int) - s ≤ 12
            · rw [decide_eq_true q2, decide_eq_true (show (t : Int) - max w s ≤ 12 by omega)]; rfl
            · rw [decide_eq_false q2, decide_eq_false (show ¬ (t : Int) - max w s ≤ 12 by omega)]; rfl
      | false =>
        have : (I (19, 0, e, cntN (mo J e) k) d).toInt = -1 := by
          unfold kno at hkn
          by_cases q : I (19, 0, e, cntN (mo J e) k) d = -1
          · rw [q, i_mone]
          · rw [if_neg q] at hkn; cases hkn
        rw [if_neg (by decide), if_neg (by decide), ih, this, show max (nwm I 0 e d (cntN (mo J e) k)).toInt (-1) = (nwm I 0 e d (cntN (mo J e) k)).toInt by omega]
        rfl
theorem rl_old (hR : Rel I J L n m t ac mcs) (he : e < 10) (hd : d < 6) : mpB J d e m = isOldB I 0 e (mcs e) (nI t) d := by
  have hk := hR.mk
  have ht := hR.tb
  have hc := hR.cp e d he hd
  have hw := rl_nwm_le (e := e) (d := d) I (mcs e) (fun i hi => hk.sv e i he hi d hd)
  have hC := rl_agC hR he hd m (Nat.le_refl m)
  have h0 := rl_agn0 hk ht he hd m (Nat.le_refl m)
  rw [← hk.ct e he] at hC h0
  have hA := rl_agN hk ht he hd
  have hV := rl_cvt hc hk ht he hd
  -- covered: a mark is known
  have hcv : cvd I 0 e d (mcs e) = true → 0 < agN J d e m := fun q => by
    rw [← hA]
    cases hz : cmk I 0 e d (mcs e) with
    | succ k => omega
    | zero =>
      exfalso
      have hall : ∀ j, j < mcs e → kno (I (19, 0, e, j) d) = false := fun j hj => by
        cases hb : kno (I (19, 0, e, j) d) with
        | false => rfl
        | true =>
          have := cnt_lt (p := fun j => kno (I (19, 0, e, j) d)) hj hb
          unfold cmk at hz
          omega
      have : cvd I 0 e d (mcs e) = false := anyB_f (fun j hj => by unfold mcv; rw [hall j hj]; rfl)
      rw [this] at q
      cases q
  -- without values any known mark covers
  have hnv : cnA J d e 4 = 0 → 0 < agN J d e m → cvd I 0 e d (mcs e) = true := fun q1 q2 => by
    rw [← rl_cnA hc] at q1
    rw [← hA] at q2
    have hex : ∃ j, j < mcs e ∧ kno (I (19, 0, e, j) d) = true := by
      apply Classical.byContradiction
      intro hn
      have : ∀ j, j < mcs e → kno (I (19, 0, e, j) d) = false := fun j hj => b_false (fun z => hn ⟨j, hj, z⟩)
      have z : cmk I 0 e d (mcs e) = cntN (fun _ => false) (mcs e) := cntN_congr this
      have y : ∀ k, cntN (fun _ => false) k = 0 := fun k => by
        induction k with
        | zero => rfl
        | succ k ih => rw [cntN, ih]; rfl
      rw [z, y] at q2
      omega
    obtain ⟨j, hj, hb⟩ := hex
    refine anyB_t hj ?_
    unfold mcv
    rw [hb, Bool.true_and]
    refine allB_t (fun c hcc => decide_eq_true ?_)
    have hz : I (10, 0, e, d) c = 0 := by
      apply Classical.byContradiction
      intro hn
      have hp : nz (I (10, 0, e, d) c) = true := by unfold nz; rw [if_neg hn]
      have := cnt_lt (p := fun c => nz (I (10, 0, e, d) c)) hcc hp
      unfold cvA at q1
      omega
    rw [hz, Int32.le_iff_toInt_le, i_zero]
    exact hk.cv e j he hj c hcc
  unfold mpB isOldB sto thr
  rw [hc.kn, hV, hC, age_le2 ht hw]
  rw [hV] at hcv hnv
  by_cases k0 : J (34, 0, 0, 0) (10 * d + e) = 0
  · rw [if_pos k0, if_pos k0]; rfl
  · rw [if_neg k0, if_neg k0, if_neg k0]
    cases hv : cvt J d e m with
    | true =>
      have := hcv hv
      rw [decide_eq_false (show ¬ agN J d e m = 0 by omega), decide_eq_true this, if_pos rfl]
      simp
    | false =>
      have hsn : (if (if false = true then 2 else if cvA (I (10, 0, e, d)) = 0 then 3 else 1) = 2 then true else false) = false := by
        by_cases q : cvA (I (10, 0, e, d)) = 0 <;> simp [q]
      by_cases q1 : 0 < cnA J d e 4
      · rw [decide_eq_true q1]
        by_cases q : cvA (I (10, 0, e, d)) = 0 <;> simp [q]
      · have q2 : ¬ 0 < agN J d e m := fun q => by
          have := hnv (by omega) q
          rw [hv] at this
          cases this
        rw [decide_eq_false q2]
        by_cases q : cvA (I (10, 0, e, d)) = 0 <;> simp [q]
theorem rel_fo (hR : Rel X Y L n m t ac mcs) (he : e < 10) (hd : d < 6) : Rel (fo mcs (nI t) e d X) (if mpB Y d e m then mforM Y d e m else Y) L n m t ac mcs := by
  rw [rl_old hR he hd]
  cases h : isOldB X 0 e (mcs e) (nI t) d with
  | true => rw [fo_t h, if_pos rfl]; exact rel_forget hR he hd
  | false => rw [fo_f h, if_neg (by decide)]; exact hR
theorem old_fold {f : Nat → Mem → Mem} {mc : Nat} : ∀ {k : Nat} (X : Mem), (∀ i, i < k → ∀ Z, isOldB (f i Z) 0 e mc month d = isOldB Z 0 e mc month d) → isOldB (foldN f X k) 0 e mc month d = isOldB X 0 e mc month d
  | 0, _, _ => rfl
  | k + 1, X, h => by rw [foldN, h k (Nat.lt_succ_self k), old_fold X (fun i hi => h i (Nat.lt_succ_of_lt hi))]
abbrev oN (X : Mem) (mcs : Nat → Nat) (month : Int32) (e d : Nat) : Nat := if isOldB X 0 e (mcs e) month d then 1 else 0
theorem dm_dev (hR : Rel X Y L n m t ac mcs) (hd : d < 6) : ∀ k, k ≤ 10 → Rel (foldN (fun e => fo mcs (nI t) e d) X k) (mpE Y d m k) L n m t ac mcs ∧ mpEn Y d m k = sumN (fun e => oN X mcs (nI t) e d) k
  | 0, _ => ⟨hR, rfl⟩
  | k + 1, hk => by
    obtain ⟨ih, ic⟩ := dm_dev hR hd k (by omega)
    refine ⟨rel_fo ih (by omega) hd, ?_⟩
    rw [mpEn, ic, sumN, rl_old ih (by omega) hd, old_fold X (fun i hi Z => old_fo (by omega))]
theorem dm_all (hn : n ≤ 10) {x : Int32} (hR : Rel X (mpD J x n m 0) L n m t ac mcs) : ∀ D, D ≤ 6 → Rel (foldN (fun d Z => foldN (fun e => fo mcs (nI t) e d) Z n) X D) (mpD J x n m D) L n m t ac mcs ∧ mpDn J x n m D = sumN (fun d => sumN (fun e => oN X mcs (nI t) e d) n) D ∧ ∀ e d2, D ≤ d2 → isOldB (foldN (fun d Z => foldN (fun e => fo mcs (nI t) e d) Z n) X D) 0 e (mcs e) (nI t) d2 = isOldB X 0 e (mcs e) (nI t) d2
  | 0, _ => ⟨hR, rfl, fun _ _ _ => rfl⟩
  | D + 1, hD => by
    obtain ⟨ih, ic, io⟩ := dm_all hn hR D (by omega)
    obtain ⟨a, b⟩ := dm_dev ih (d := D) (by omega) n hn
    refine ⟨a, ?_, fun e d2 hd2 => ?_⟩
    · rw [mpDn, sumN, b, ic]
      congr 1
      exact sumN_congr (fun e _ => by unfold oN; rw [io e D (Nat.le_refl D)])
    · rw [foldN, old_fold _ (fun i hi Z => old_fo (by omega)), io e d2 (by omega)]
theorem fwoN_sum : ∀ D, fwoN X 0 e (mcs e) month D = sumN (fun d => oN X mcs month e d) D
  | 0 => rfl
  | D + 1 => by rw [fwoN, fwoN_sum D, sumN, fwo_fold, old_fold X (fun i hi Z => old_fo (by omega))]
theorem pasN_sum {x : Int32} : ∀ k, pasN I 0 mcs x k = sumN (fun e => sumN (fun d => oN (pasM I 0 mcs x 0) mcs (I (1, 0, 0, 0) 0 + x) e d) 6) k ∧ ∀ e d2, k ≤ e → isOldB (pasM I 0 mcs x k) 0 e (mcs e) (I (1, 0, 0, 0) 0 + x) d2 = isOldB (pasM I 0 mcs x 0) 0 e (mcs e) (I (1, 0, 0, 0) 0 + x) d2
  | 0 => ⟨rfl, fun _ _ _ => rfl⟩
  | k + 1 => by
    obtain ⟨a, b⟩ := pasN_sum k
    refine ⟨?_, fun e d2 he => ?_⟩
    · rw [pasN, a, sumN, fwoN_sum]
      congr 1
      exact sumN_congr (fun d _ => by unfold oN; rw [b k d (Nat.le_refl k)])
    · rw [show pasM I 0 mcs x (k + 1) = fwoM (pasM I 0 mcs x k) 0 k (mcs k) (I (1, 0, 0, 0) 0 + x) 6 from rfl, fwo_fold, old_fold _ (fun i hi Z => old_fo (by omega)), b e d2 (by omega)]
theorem rel_pass (h : Rel I J L n m t ac mcs) {x : Nat} (ht : t + x ≤ 20000) : Rel (pasM I 0 mcs (nI x) n) (mpD J (nI x) n m 6) L n m (t + x) ac mcs ∧ pasN I 0 mcs (nI x) n = mpDn J (nI x) n m 6 := by
  have g := h.gl
  have eI : I (1, 0, 0, 0) 0 + nI x = nI (t + x) := by rw [g.tI, nI_add]
  have j30 : mpD J (nI x) n m 0 (30, 0, 0, 0) = upd (thM J 0 (30, 0, 0, 0)) 0 (thM J 0 (30, 0, 0, 0) 0 + nI x) := sset_eq _ _ _
  have jo : ∀ k : KN, k.1 ≠ 30 → mpD J (nI x) n m 0 k = J k := fun k hk => by
    rw [mpD, sset_ne _ _ (fun z => hk (congrArg (·.1) z)), th_see hk]
  have i1 : pasM I 0 mcs (nI x) 0 (1, 0, 0, 0) = upd (I (1, 0, 0, 0)) 0 (I (1, 0, 0, 0) 0 + nI x) := sset_eq _ _ _
  have io : ∀ k : KN, k.1 ≠ 1 → pasM I 0 mcs (nI x) 0 k = I k := fun k hk => by
    rw [pasM, sset_ne _ _ (fun z => hk (congrArg (·.1) z))]
  have h0 : Rel (pasM I 0 mcs (nI x) 0) (mpD J (nI x) n m 0) L n m (t + x) ac mcs := by
    refine ⟨⟨?_, ?_, g.n10, ?_, ?_, ?_, fun e he => ?_, fun e q he hq => ?_, fun e q he hq => ?_, fun d hd => ?_, fun d hd => ?_⟩, fun e d he hd => ?_, ?_, h.acb, h.mb, ht⟩
    · rw [i1, ud_ne _ _ (by decide)]; exact g.nI_
    · rw [j30, ud_ne _ _ (by decide), th_30 (by decide)]; exact g.nJ
    · rw [j30, ud_ne _ _ (by decide), th_30 (by decide)]; exact g.mJ
    · rw [i1, ud_eq]; exact eI
    · rw [j30, ud_eq, th_30 (by decide), g.tJ, nI_add]
    · rw [io _ (kz rfl), jo _ (kz rfl)]; exact g.ow e he
    · rw [io _ (kz rfl), jo _ (kz rfl)]; exact g.sh e q he hq
    · rw [io _ (kz rfl)]; exact g.sv e q he hq
    · rw [io _ (kz rfl)]; exact g.aI d hd
    · rw [jo _ (kz rfl)]; exact g.aJ d hd
    · exact cp_of (h.cp e d he hd) (fun kk hk => io _ (by show kk ≠ 1; omega)) (by rw [jo _ (kz rfl)]) (by rw [jo _ (kz rfl)]) (fun c _ => ⟨by rw [jo _ (kz rfl)], by rw [jo _ (kz rfl)], by rw [jo _ (kz rfl)], by rw [jo _ (kz rfl)]⟩) (fun _ _ _ _ _ => rfl) (fun _ => Nat.le_refl _)
    · exact mk_of h.mk (fun e j _ => io _ (kz rfl)) (fun e j _ => io _ (kz rfl)) (jo _ (kz rfl)) (jo _ (kz rfl)) (jo _ (kz rfl)) (Nat.le_add_right _ _)
  obtain ⟨a, b, -⟩ := dm_all g.n10 h0 6 (Nat.le_refl 6)
  have sw : foldN (fun e X => foldN (fun d => fo mcs (nI (t + x)) e d) X 6) (pasM I 0 mcs (nI x) 0) n = foldN (fun d Z => foldN (fun e => fo mcs (nI (t + x)) e d) Z n) (pasM I 0 mcs (nI x) 0) 6 := foldN_swap (op := fun e d => fo mcs (nI (t + x)) e d) (D := 6) _ n (fun e d e2 d2 _ _ _ _ hne X => fo_comm hne)
  rw [pas_fold, (pasN_sum n).1, eI, sw, b]
  exact ⟨a, sumN_swap (fun e d => oN (pasM I 0 mcs (nI x) 0) mcs (nI (t + x)) e d) 6 n⟩
end PASS2
