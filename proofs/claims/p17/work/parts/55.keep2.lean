def logU (L : Nat → Nat → Int32 → Int32) (e0 c0 : Nat) (a0 v : Int32) : Nat → Nat → Int32 → Int32 := fun e c a => if e = e0 ∧ c = c0 ∧ a = a0 then v else L e c a
theorem logU_eq {L : Nat → Nat → Int32 → Int32} {e0 c0 : Nat} {a0 v : Int32} : logU L e0 c0 a0 v e0 c0 a0 = v := if_pos ⟨rfl, rfl, rfl⟩
theorem logU_ne {L : Nat → Nat → Int32 → Int32} {e0 c0 e c : Nat} {a0 v a : Int32} (h : ¬ (e = e0 ∧ c = c0 ∧ a = a0)) : logU L e0 c0 a0 v e c a = L e c a := if_neg h
theorem cl_inj {d e c d2 e2 c2 : Nat} (he : e < 10) (he2 : e2 < 10) (hc : c < 24) (hc2 : c2 < 24) (h : cl d e c = cl d2 e2 c2) : d = d2 ∧ e = e2 ∧ c = c2 := by
  have h1 : 10 * d + e = 10 * d2 + e2 := by
    unfold cl at h
    generalize 10 * d + e = x at h ⊢
    generalize 10 * d2 + e2 = y at h ⊢
    omega
  have h2 : c = c2 := by
    unfold cl at h
    rw [h1] at h
    omega
  exact ⟨by omega, by omega, h2⟩
theorem cl_ne {d e c d2 e2 c2 x : Nat} (he : e < 10) (he2 : e2 < 10) (hc : c < 24) (hc2 : c2 < 24) (h : ¬ (e2 = e ∧ d2 = d)) (hx : x = cl d e c) : cl d2 e2 c2 ≠ x := fun z => by
  have q := cl_inj he2 he hc2 hc (z.trans hx)
  exact h ⟨q.2.1, q.1⟩
section KEEP2
variable {I J I' J' : Mem} {L L' : Nat → Nat → Int32 → Int32} {n m t t' : Nat} {ac ac' mcs : Nat → Nat} {e d o : Nat}
/-! a value told -/
theorem tll_oth {v : Int32} {f : Nat} {k : KN} (h2 : k.1 ≠ 2) (h : k.2 ≠ (0, e, d)) : tllM I 0 e f d v k = I k := by
  have q : tl1M I 0 e f d k = I k := by
    unfold tl1M nxtM dropM
    rw [sset_ne _ _ (fun z => h (congrArg (·.2) z)), sset_ne _ _ (fun z => h2 (congrArg (·.1) z)), sset_ne _ _ (fun z => h (congrArg (·.2) z)), sset_ne _ _ (fun z => h (congrArg (·.2) z))]
  unfold tllM
  split
  · exact q
  · rw [sset_ne _ _ (fun z => h (congrArg (·.2) z)), sset_ne _ _ (fun z => h (congrArg (·.2) z)), q]
theorem tl1_10 {f : Nat} : tl1M I 0 e f d (10, 0, e, d) = rf (f * 6) (f * 6 + 6) (fun _ => 0) (I (10, 0, e, d)) := by
  unfold tl1M nxtM dropM
  rw [sset_ne _ _ (nek (by decide)), sset_ne _ _ (nek (by decide)), sset_ne _ _ (nek (by decide)), sset_eq]
theorem tl1_11 {f : Nat} : tl1M I 0 e f d (11, 0, e, d) = rf (f * 6) (f * 6 + 6) (fun _ => 0) (I (11, 0, e, d)) := by
  unfold tl1M nxtM dropM
  rw [sset_ne _ _ (nek (by decide)), sset_ne _ _ (nek (by decide)), sset_eq]
theorem tl1_2 {f : Nat} : tl1M I 0 e f d (2, 0, 0, 0) = upd (I (2, 0, 0, 0)) d (I (2, 0, 0, 0) d + 1) := by
  unfold tl1M nxtM
  rw [sset_ne _ _ (nek (by decide)), sset_eq, drop_see (kz rfl) (kz rfl)]
theorem tl1_13 {f : Nat} : tl1M I 0 e f d (13, 0, e, d) = upd (I (13, 0, e, d)) (f * 6 + d) (I (2, 0, 0, 0) d + 1) := sset_eq _ _ _
theorem tll_10 {v : Int32} {f : Nat} : tllM I 0 e f d v (10, 0, e, d) = if v = -1 then rf (f * 6) (f * 6 + 6) (fun _ => 0) (I (10, 0, e, d)) else upd (rf (f * 6) (f * 6 + 6) (fun _ => 0) (I (10, 0, e, d))) (f * 6 + d) (I (2, 0, 0, 0) d + 1) := by
  unfold tllM
  split
  · exact tl1_10
  · rw [sset_ne _ _ (nek (by decide)), sset_eq, tl1_10]
theorem tll_11 {v : Int32} {f : Nat} : tllM I 0 e f d v (11, 0, e, d) = if v = -1 then rf (f * 6) (f * 6 + 6) (fun _ => 0) (I (11, 0, e, d)) else upd (rf (f * 6) (f * 6 + 6) (fun _ => 0) (I (11, 0, e, d))) (f * 6 + d) v := by
  unfold tllM
  split
  · exact tl1_11
  · rw [sset_eq, tl1_11]
theorem tll_2 {v : Int32} {f : Nat} : tllM I 0 e f d v (2, 0, 0, 0) = upd (I (2, 0, 0, 0)) d (I (2, 0, 0, 0) d + 1) := by
  unfold tllM
  split
  · exact tl1_2
  · rw [sset_ne _ _ (nek (by decide)), sset_ne _ _ (nek (by decide)), tl1_2]
theorem tll_13 {v : Int32} {f : Nat} : tllM I 0 e f d v (13, 0, e, d) = upd (I (13, 0, e, d)) (f * 6 + d) (I (2, 0, 0, 0) d + 1) := by
  unfold tllM
  split
  · exact tl1_13
  · rw [sset_ne _ _ (nek (by decide)), sset_ne _ _ (nek (by decide)), tl1_13]
theorem mt1_see {f : Nat} {k : KN} (h30 : k.1 ≠ 30) (h31 : k.1 ≠ 31) (h35 : k.1 ≠ 35) (h37 : k.1 ≠ 37) : mt1 J d e f k = J k := by
  unfold mt1
  rw [sset_ne _ _ (fun z => h37 (congrArg (·.1) z)), sset_ne _ _ (fun z => h31 (congrArg (·.1) z)), sset_ne _ _ (fun z => h35 (congrArg (·.1) z)), th_see h30]
theorem mtl_see {f : Nat} {w : Int32} {k : KN} (h30 : k.1 ≠ 30) (h31 : k.1 ≠ 31) (h35 : k.1 ≠ 35) (h36 : k.1 ≠ 36) (h37 : k.1 ≠ 37) : mtlM J d e f w k = J k := by
  unfold mtlM
  split
  · exact mt1_see h30 h31 h35 h37
  · rw [sset_ne _ _ (fun z => h36 (congrArg (·.1) z)), sset_ne _ _ (fun z => h35 (congrArg (·.1) z)), mt1_see h30 h31 h35 h37]
theorem mtl_30 {f : Nat} {w : Int32} : mtlM J d e f w (30, 0, 0, 0) = thM J 0 (30, 0, 0, 0) := by
  unfold mtlM mt1
  split
  · rw [sset_ne _ _ (nek (by decide)), sset_ne _ _ (nek (by decide)), sset_ne _ _ (nek (by decide))]
  · rw [sset_ne _ _ (nek (by decide)), sset_ne _ _ (nek (by decide)), sset_ne _ _ (nek (by decide)), sset_ne _ _ (nek (by decide)), sset_ne _ _ (nek (by decide))]
theorem mtl_31 {f : Nat} {w : Int32} : mtlM J d e f w (31, 0, 0, 0) = upd (J (31, 0, 0, 0)) d (J (31, 0, 0, 0) d + nI 1) := by
  unfold mtlM mt1
  split
  · rw [sset_ne _ _ (nek (by decide)), sset_eq]
  · rw [sset_ne _ _ (nek (by decide)), sset_ne _ _ (nek (by decide)), sset_ne _ _ (nek (by decide)), sset_eq]
theorem mtl_37 {f : Nat} {w : Int32} : mtlM J d e f w (37, 0, 0, 0) = upd (J (37, 0, 0, 0)) (24 * (10 * d + e) + 6 * f + d) (J (31, 0, 0, 0) d + nI 1) := by
  unfold mtlM mt1
  split
  · rw [sset_eq]
  · rw [sset_ne _ _ (nek (by decide)), sset_ne _ _ (nek (by decide)), sset_eq]
theorem mtl_35 {f : Nat} {w : Int32} : mtlM J d e f w (35, 0, 0, 0) = if w < 0 then mt0 J d e f else upd (mt0 J d e f) (24 * (10 * d + e) + 6 * f + d) (J (31, 0, 0, 0) d + nI 1) := by
  unfold mtlM mt1
  split
  · rw [sset_ne _ _ (nek (by decide)), sset_ne _ _ (nek (by decide)), sset_eq]
  · rw [sset_ne _ _ (nek (by decide)), sset_eq]
theorem mtl_36 {f : Nat} {w : Int32} : mtlM J d e f w (36, 0, 0, 0) = if w < 0 then J (36, 0, 0, 0) else upd (J (36, 0, 0, 0)) (24 * (10 * d + e) + 6 * f + d) w := by
  unfold mtlM
  split
  · exact mt1_see (kz rfl) (kz rfl) (kz rfl) (kz rfl)
  · rw [sset_eq]
theorem rel_tell (h : Rel I J L n m t ac mcs) (hd : d < 6) (he : e < 10) {f : Nat} (hf : f < 4) {v : Int32} (hv : v = -1 ↔ v < 0) (hac : ac d < 600) :
    Rel (tllM I 0 e f d v) (mtlM J d e f v) (logU L e (f * 6 + d) (nI (ac d + 1)) v) n m t (mup ac d) mcs := by
  have g := h.gl
  have s1 : ∀ k : KN, k.1 ≠ 2 → k.1 ≠ 10 → k.1 ≠ 11 → k.1 ≠ 13 → tllM I 0 e f d v k = I k := fun k a b c d => tll_see a b c d
  have aI := g.aI d hd
  have aJ := g.aJ d hd
  have eA : I (2, 0, 0, 0) d + 1 = nI (ac d + 1) := by rw [aI, ← nI_one, nI_add]
  have eJ : J (31, 0, 0, 0) d + nI 1 = nI (ac d + 1) := by rw [aJ, nI_add]
  have hle : ∀ x, ac x ≤ mup ac d x := fun x => by
    by_cases q : x = d
    · subst q; rw [mup_eq]; omega
    · rw [mup_ne q]; exact Nat.le_refl _
  have eT : (nI (ac d + 1)).toInt = ac d + 1 := by rw [i_nI (by omega)]; omega
  refine ⟨⟨?_, ?_, g.n10, ?_, ?_, ?_, fun e2 he2 => ?_, fun e2 q he2 hq => ?_, fun e2 q he2 hq => ?_, fun d2 hd2 => ?_, fun d2 hd2 => ?_⟩, fun e2 d2 he2 hd2 => ?_, ?_, fun d2 hd2 => ?_, h.mb, h.tb⟩
  · rw [s1 _ (kz rfl) (kz rfl) (kz rfl) (kz rfl)]; exact g.nI_
  · rw [mtl_30, th_30 (by decide)]; exact g.nJ
  · rw [mtl_30, th_30 (by decide)]; exact g.mJ
  · rw [s1 _ (kz rfl) (kz rfl) (kz rfl) (kz rfl)]; exact g.tI
  · rw [mtl_30, th_30 (by decide)]; exact g.tJ
  · rw [s1 _ (kz rfl) (kz rfl) (kz rfl) (kz rfl), mtl_see (kz rfl) (kz rfl) (kz rfl) (kz rfl) (kz rfl)]; exact g.ow e2 he2
  · rw [s1 _ (kz rfl) (kz rfl) (kz rfl) (kz rfl), mtl_see (kz rfl) (kz rfl) (kz rfl) (kz rfl) (kz rfl)]; exact g.sh e2 q he2 hq
  · rw [s1 _ (kz rfl) (kz rfl) (kz rfl) (kz rfl)]; exact g.sv e2 q he2 hq
  · rw [tll_2, eA]
    by_cases q : d2 = d
    · subst q; rw [ud_eq, mup_eq]
    · rw [ud_ne _ _ q, mup_ne q]; exact g.aI d2 hd2
  · rw [mtl_31, eJ]
    by_cases q : d2 = d
    · subst q; rw [ud_eq, mup_eq]
    · rw [ud_ne _ _ q, mup_ne q]; exact g.aJ d2 hd2
  · have hc := h.cp e2 d2 he2 hd2
    have j34 := mtl_see (J := J) (d := d) (e := e) (f := f) (w := v) (k := (34, 0, 0, 0)) (kz rfl) (kz rfl) (kz rfl) (kz rfl) (kz rfl)
    have j38 := mtl_see (J := J) (d := d) (e := e) (f := f) (w := v) (k := (38, 0, 0, 0)) (kz rfl) (kz rfl) (kz rfl) (kz rfl) (kz rfl)
    have j39 := mtl_see (J := J) (d := d) (e := e) (f := f) (w := v) (k := (39, 0, 0, 0)) (kz rfl) (kz rfl) (kz rfl) (kz rfl) (kz rfl)
    have hLo : ∀ (c : Nat) (a : Int32), c < 24 → a ≠ 0 → a.toInt ≤ (ac (c % 6) : Int) → logU L e (f * 6 + d) (nI (ac d + 1)) v e2 c a = L e2 c a := fun c a hcc hne hle => by
      refine logU_ne ?_
      rintro ⟨q1, q2, q3⟩
      rw [q3, eT, q2, show (f * 6 + d) % 6 = d by omega] at hle
      omega
    by_cases q : e2 = e ∧ d2 = d
    · obtain ⟨rfl, rfl⟩ := q
      -- the row of acts, here and there
      have a35 : ∀ c, c < 24 → mtlM J d2 e2 f v (35, 0, 0, 0) (cl d2 e2 c) = tllM I 0 e2 f d2 v (10, 0, e2, d2) c := fun c hcc => by
        have m0 : mt0 J d2 e2 f (cl d2 e2 c) = rf (f * 6) (f * 6 + 6) (fun _ => 0) (I (10, 0, e2, d2)) c := by
          unfold mt0
          by_cases q : f * 6 ≤ c ∧ c < f * 6 + 6
          · rw [rf_in q, rf_in (by unfold cl; omega)]
          · rw [rf_out q, rf_out (by unfold cl; omega), hc.ac_ c hcc]
        rw [mtl_35, tll_10]
        by_cases hw : v < 0
        · rw [if_pos hw, if_pos (hv.mpr hw), m0]
        · rw [if_neg hw, if_neg (fun z => hw (hv.mp z)), eJ, eA]
          by_cases z : c = f * 6 + d2
          · rw [z, ud_eq, show cl d2 e2 (f * 6 + d2) = 24 * (10 * d2 + e2) + 6 * f + d2 by unfold cl; omega, ud_eq]
          · rw [ud_ne _ _ z, ud_ne _ _ (by unfold cl; omega), m0]
      have a10 : ∀ c, c < 24 → tllM I 0 e2 f d2 v (10, 0, e2, d2) c = 0 ∨ (tllM I 0 e2 f d2 v (10, 0, e2, d2) c = I (10, 0, e2, d2) c ∧ ¬ (f * 6 ≤ c ∧ c < f * 6 + 6)) ∨ (v ≠ -1 ∧ c = f * 6 + d2 ∧ tllM I 0 e2 f d2 v (10, 0, e2, d2) c = nI (ac d2 + 1)) := fun c hcc => by
        rw [tll_10]
        have r0 : rf (f * 6) (f * 6 + 6) (fun _ => 0) (I (10, 0, e2, d2)) c = 0 ∨ (rf (f * 6) (f * 6 + 6) (fun _ => 0) (I (10, 0, e2, d2)) c = I (10, 0, e2, d2) c ∧ ¬ (f * 6 ≤ c ∧ c < f * 6 + 6)) := by
          by_cases q : f * 6 ≤ c ∧ c < f * 6 + 6
          · rw [rf_in q]; exact Or.inl rfl
          · rw [rf_out q]; exact Or.inr ⟨rfl, q⟩
        by_cases hw : v = -1
        · rw [if_pos hw]
          exact r0.imp id Or.inl
        · rw [if_neg hw, eA]
          by_cases z : c = f * 6 + d2
          · rw [z, ud_eq]; exact Or.inr (Or.inr ⟨hw, rfl, rfl⟩)
          · rw [ud_ne _ _ z]; exact r0.imp id Or.inl
      have nz1 : nI (ac d2 + 1) ≠ 0 := fun z => by rw [z, i_zero] at eT; omega
      refine ⟨?_, ?_, fun c hcc => (a35 c hcc).symm, fun c hcc => ?_, fun c hcc => ?_, fun c hcc hne => ?_, fun c hcc hne => ?_, fun c hcc => ?_, fun c hcc => ?_⟩
      · rw [s1 _ (kz rfl) (kz rfl) (kz rfl) (kz rfl), j34]; exact hc.kn
      · rw [s1 _ (kz rfl) (kz rfl) (kz rfl) (kz rfl), j38]; exact hc.nt
      · rw [tll_13, mtl_37, eJ, eA]
        by_cases z : c = f * 6 + d2
        · rw [z, ud_eq, show cl d2 e2 (f * 6 + d2) = 24 * (10 * d2 + e2) + 6 * f + d2 by unfold cl; omega, ud_eq]
        · rw [ud_ne _ _ z, ud_ne _ _ (by unfold cl; omega)]; exact hc.se c hcc
      · rw [s1 _ (kz rfl) (kz rfl) (kz rfl) (kz rfl), j39]; exact hc.no c hcc
      · rcases a10 c hcc with q | ⟨q, q2⟩ | ⟨q, q2, q3⟩
        · exact absurd q hne
        · rw [q] at hne ⊢
          rw [hLo c _ hcc hne (hc.av c hcc).2, tll_11]
          by_cases hw : v = -1
          · rw [if_pos hw, rf_out q2]; exact hc.to c hcc hne
          · rw [if_neg hw, ud_ne _ _ (by omega), rf_out q2]; exact hc.to c hcc hne
        · rw [q3, q2, logU_eq, tll_11, if_neg q, ud_eq]
      · rcases a10 c hcc with q | ⟨q, q2⟩ | ⟨q, q2, q3⟩
        · exact absurd q hne
        · rw [q] at hne ⊢
          rw [hLo c _ hcc hne (hc.av c hcc).2, mtl_36]
          by_cases hw : v < 0
          · rw [if_pos hw]; exact hc.va c hcc hne
          · rw [if_neg hw, ud_ne _ _ (by unfold cl; omega)]; exact hc.va c hcc hne
        · rw [q3, q2, logU_eq, mtl_36, if_neg (fun z => q (hv.mpr z)), show cl d2 e2 (f * 6 + d2) = 24 * (10 * d2 + e2) + 6 * f + d2 by unfold cl; omega, ud_eq]
      · rcases a10 c hcc with q | ⟨q, q2⟩ | ⟨q, q2, q3⟩
        · rw [q, i_zero]; omega
        · rw [q]
          have := hc.av c hcc
          have := hle (c % 6)
          omega
        · rw [q3, eT, q2, show (f * 6 + d2) % 6 = d2 by omega, mup_eq]
          omega
      · rw [tll_13, eA]
        by_cases z : c = f * 6 + d2
        · rw [z, ud_eq, eT]; omega
        · rw [ud_ne _ _ z]; exact hc.sv c hcc
    · have hk : ∀ kk, ((kk, 0, e2, d2) : KN).2 ≠ (0, e, d) := fun kk z => q ⟨congrArg (·.2.1) z, congrArg (·.2.2) z⟩
      refine cp_of hc (fun kk hkk => tll_oth (by show kk ≠ 2; omega) (hk kk)) (by rw [j34]) (by rw [j38]) (fun c hcc => ⟨?_, ?_, ?_, by rw [j39]⟩) hLo hle
      · have m0 : mt0 J d e f (cl d2 e2 c) = J (35, 0, 0, 0) (cl d2 e2 c) := rf_out (fun z => cl_ne (c := cl d2 e2 c - 24 * (10 * d + e)) he he2 (by omega) hcc q (x := cl d2 e2 c) (by unfold cl at z ⊢; omega) rfl)
        rw [mtl_35]
        split
        · exact m0
        · rw [ud_ne _ _ (cl_ne (c := 6 * f + d) he he2 (by omega) hcc q (by unfold cl; omega)), m0]
      · rw [mtl_36]
        split
        · rfl
        · rw [ud_ne _ _ (cl_ne (c := 6 * f + d) he he2 (by omega) hcc q (by unfold cl; omega))]
      · rw [mtl_37, ud_ne _ _ (cl_ne (c := 6 * f + d) he he2 (by omega) hcc q (by unfold cl; omega))]
  · exact mk_of h.mk (fun e j _ => s1 _ (kz rfl) (kz rfl) (kz rfl) (kz rfl)) (fun e j _ => s1 _ (kz rfl) (kz rfl) (kz rfl) (kz rfl)) (mtl_see (kz rfl) (kz rfl) (kz rfl) (kz rfl) (kz rfl)) (mtl_see (kz rfl) (kz rfl) (kz rfl) (kz rfl) (kz rfl)) (mtl_see (kz rfl) (kz rfl) (kz rfl) (kz rfl) (kz rfl)) (Nat.le_refl _)
  · by_cases q : d2 = d
    · subst q; rw [mup_eq]; omega
    · rw [mup_ne q]; exact h.acb d2 hd2
end KEEP2
