/-! acts keep both side by side -/
theorem ud_eq (f : Nat → Int32) (k : Nat) (v : Int32) : upd f k v k = v := if_pos rfl
theorem ud_ne (f : Nat → Int32) {k j : Nat} (v : Int32) (h : j ≠ k) : upd f k v j = f j := if_neg h
theorem rf_in {lo hi c : Nat} {g f : Nat → Int32} (h : lo ≤ c ∧ c < hi) : rf lo hi g f c = g c := if_pos h
theorem rf_out {lo hi c : Nat} {g f : Nat → Int32} (h : ¬ (lo ≤ c ∧ c < hi)) : rf lo hi g f c = f c := if_neg h
section KEEP
variable {I J I' J' : Mem} {L L' : Nat → Nat → Int32 → Int32} {n m t t' : Nat} {ac ac' mcs : Nat → Nat} {e d o : Nat}
theorem cp_of (h : Cp I J L ac e d) (hI : ∀ kk, (kk = 9 ∨ kk = 10 ∨ kk = 11 ∨ kk = 13 ∨ kk = 15) → I' (kk, 0, e, d) = I (kk, 0, e, d))
    (h34 : J' (34, 0, 0, 0) (10 * d + e) = J (34, 0, 0, 0) (10 * d + e)) (h38 : J' (38, 0, 0, 0) (10 * d + e) = J (38, 0, 0, 0) (10 * d + e))
    (hJ : ∀ c, c < 24 → J' (35, 0, 0, 0) (cl d e c) = J (35, 0, 0, 0) (cl d e c) ∧ J' (36, 0, 0, 0) (cl d e c) = J (36, 0, 0, 0) (cl d e c) ∧ J' (37, 0, 0, 0) (cl d e c) = J (37, 0, 0, 0) (cl d e c) ∧ J' (39, 0, 0, 0) (cl d e c) = J (39, 0, 0, 0) (cl d e c))
    (hL : ∀ (c : Nat) (a : Int32), c < 24 → a ≠ 0 → a.toInt ≤ (ac (c % 6) : Int) → L' e c a = L e c a) (ha : ∀ x, ac x ≤ ac' x) : Cp I' J' L' ac' e d := by
  have i9 := hI 9 (by decide)
  have i10 := hI 10 (by decide)
  have i11 := hI 11 (by decide)
  have i13 := hI 13 (by decide)
  have i15 := hI 15 (by decide)
  refine ⟨?_, ?_, fun c hc => ?_, fun c hc => ?_, fun c hc => ?_, fun c hc hn => ?_, fun c hc hn => ?_, fun c hc => ?_, fun c hc => ?_⟩
  · rw [i9, h34]; exact h.kn
  · rw [i9, h38]; exact h.nt
  · rw [i10, (hJ c hc).1]; exact h.ac_ c hc
  · rw [i13, (hJ c hc).2.2.1]; exact h.se c hc
  · rw [i15, (hJ c hc).2.2.2]; exact h.no c hc
  · rw [i10] at hn ⊢
    rw [i11, hL c _ hc hn (h.av c hc).2]
    exact h.to c hc hn
  · rw [i10] at hn ⊢
    rw [(hJ c hc).2.1, hL c _ hc hn (h.av c hc).2]
    exact h.va c hc hn
  · rw [i10]
    have := h.av c hc
    have := ha (c % 6)
    omega
  · rw [i13]; exact h.sv c hc
theorem mk_of (h : Mk I J m t mcs) (h18 : ∀ e j, j < mcs e → I' (18, 0, e, j) = I (18, 0, e, j)) (h19 : ∀ e j, j < mcs e → I' (19, 0, e, j) = I (19, 0, e, j)) (h40 : J' (40, 0, 0, 0) = J (40, 0, 0, 0)) (h41 : J' (41, 0, 0, 0) = J (41, 0, 0, 0)) (h42 : J' (42, 0, 0, 0) = J (42, 0, 0, 0)) (ht : t ≤ t') : Mk I' J' m t' mcs := by
  have hmo : ∀ e, mo J' e = mo J e := fun e => by unfold mo; rw [h40]
  refine ⟨fun e he => ?_, fun e k he hk hm c hc => ?_, fun e k he hk hm d hd => ?_, fun e j he hj c hc => ?_, fun e j he hj d hd => ?_, fun k d hk hd => ?_⟩
  · rw [hmo]; exact h.ct e he
  · rw [hmo] at hm ⊢
    rw [h18 e _ (by rw [h.ct e he]; exact cnt_lt hk hm), h41]
    exact h.cp e k he hk hm c hc
  · rw [hmo] at hm ⊢
    rw [h19 e _ (by rw [h.ct e he]; exact cnt_lt hk hm), h42]
    exact h.si e k he hk hm d hd
  · rw [h18 e j hj]; exact h.cv e j he hj c hc
  · rw [h19 e j hj]
    have := h.sv e j he hj d hd
    omega
  · rw [h42]; exact h.zz k d hk hd
/-- what the relation hangs on -/
theorem rel_congr (h : Rel I J L n m t ac mcs) (hI : ∀ k e d, (k = 1 ∨ k = 2 ∨ k = 4 ∨ k = 5 ∨ k = 9 ∨ k = 10 ∨ k = 11 ∨ k = 13 ∨ k = 15 ∨ k = 18 ∨ k = 19) → I' (k, 0, e, d) = I (k, 0, e, d)) (h30 : ∀ j, j < 3 → J' (30, 0, 0, 0) j = J (30, 0, 0, 0) j) (hJ : ∀ k, 31 ≤ k → k ≤ 42 → J' (k, 0, 0, 0) = J (k, 0, 0, 0)) : Rel I' J' L n m t ac mcs := by
  have g := h.gl
  refine ⟨⟨?_, ?_, g.n10, ?_, ?_, ?_, fun e he => ?_, fun e q he hq => ?_, fun e q he hq => ?_, fun d hd => ?_, fun d hd => ?_⟩, fun e d he hd => ?_, ?_, h.acb, h.mb, h.tb⟩
  · rw [hI 1 0 0 (by decide)]; exact g.nI_
  · rw [h30 1 (by decide)]; exact g.nJ
  · rw [h30 2 (by decide)]; exact g.mJ
  · rw [hI 1 0 0 (by decide)]; exact g.tI
  · rw [h30 0 (by decide)]; exact g.tJ
  · rw [hI 4 e 0 (by decide), hJ 32 (by decide) (by decide)]; exact g.ow e he
  · rw [hI 5 e 0 (by decide), hJ 33 (by decide) (by decide)]; exact g.sh e q he hq
  · rw [hI 5 e 0 (by decide)]; exact g.sv e q he hq
  · rw [hI 2 0 0 (by decide)]; exact g.aI d hd
  · rw [hJ 31 (by decide) (by decide)]; exact g.aJ d hd
  · refine cp_of (h.cp e d he hd) (fun kk hk => hI kk e d (by omega)) ?_ ?_ (fun c hc => ⟨?_, ?_, ?_, ?_⟩) (fun c a _ _ _ => rfl) (fun _ => Nat.le_refl _)
    · rw [hJ 34 (by decide) (by decide)]
    · rw [hJ 38 (by decide) (by decide)]
    · rw [hJ 35 (by decide) (by decide)]
    · rw [hJ 36 (by decide) (by decide)]
    · rw [hJ 37 (by decide) (by decide)]
    · rw [hJ 39 (by decide) (by decide)]
  · exact mk_of h.mk (fun e j _ => hI 18 e j (by decide)) (fun e j _ => hI 19 e j (by decide)) (hJ 40 (by decide) (by decide)) (hJ 41 (by decide) (by decide)) (hJ 42 (by decide) (by decide)) (Nat.le_refl _)
theorem rel_th (h : Rel I J L n m t ac mcs) (w : Nat) : Rel I (thM J w) L n m t ac mcs :=
  rel_congr h (fun _ _ _ _ => rfl) (fun j hj => th_30 (by omega)) (fun k hk _ => th_see (by show k ≠ 30; omega))
/-! a new entry -/
theorem rel_entry (h : Rel I J L n m t ac mcs) (hd : d < 6) (hn : n < 10) : Rel (mkeM I 0 d n) (mEntM J d n) L (n + 1) m t ac mcs := by
  have g := h.gl
  have s1 : ∀ k : KN, k.1 ≠ 1 → k.1 ≠ 4 → k.1 ≠ 9 → mkeM I 0 d n k = I k := fun k h1 h4 h9 => by
    unfold mkeM
    rw [sset_ne _ _ (fun q => h9 (congrArg (·.1) q)), sset_ne _ _ (fun q => h4 (congrArg (·.1) q)), sset_ne _ _ (fun q => h1 (congrArg (·.1) q))]
  have s2 : ∀ k : KN, k.1 ≠ 30 → k.1 ≠ 32 → k.1 ≠ 34 → mEntM J d n k = J k := fun k h1 h4 h9 => by
    unfold mEntM
    rw [sset_ne _ _ (fun q => h1 (congrArg (·.1) q)), sset_ne _ _ (fun q => h9 (congrArg (·.1) q)), sset_ne _ _ (fun q => h4 (congrArg (·.1) q)), th_see h1]
  have r1 : mkeM I 0 d n (1, 0, 0, 0) = upd (I (1, 0, 0, 0)) 1 (nI (n + 1)) := by
    unfold mkeM
    rw [sset_ne _ _ (nek (by decide)), sset_ne _ _ (nek (by decide)), sset_eq]
  have r30 : mEntM J d n (30, 0, 0, 0) = upd (thM J 0 (30, 0, 0, 0)) 1 (nI (n + 1)) := sset_eq _ _ _
  have r32 : mEntM J d n (32, 0, 0, 0) = upd (J (32, 0, 0, 0)) n (nI (d / 2)) := by
    unfold mEntM
    rw [sset_ne _ _ (nek (by decide)), sset_ne _ _ (nek (by decide)), sset_eq]
  have r34 : mEntM J d n (34, 0, 0, 0) = upd (J (34, 0, 0, 0)) (10 * d + n) 1 := by
    unfold mEntM
    rw [sset_ne _ _ (nek (by decide)), sset_eq]
  have r9 : mkeM I 0 d n (9, 0, n, d) = upd (I (9, 0, n, d)) 0 1 := sset_eq _ _ _
  have r9' : ∀ e2 d2, ¬ (e2 = n ∧ d2 = d) → mkeM I 0 d n (9, 0, e2, d2) = I (9, 0, e2, d2) := fun e2 d2 q => by
    unfold mkeM
    rw [sset_ne _ _ (fun z => q ⟨congrArg (·.2.2.1) z, congrArg (·.2.2.2) z⟩), sset_ne _ _ (nek (by decide)), sset_ne _ _ (nek (by decide))]
  have r4 : ∀ e2, mkeM I 0 d n (4, 0, e2, 0) 0 = if e2 = n then nI (d / 2) else I (4, 0, e2, 0) 0 := fun e2 => by
    unfold mkeM
    rw [sset_ne _ _ (nek (by decide))]
    by_cases q : e2 = n
    · subst q; rw [sset_eq, if_pos rfl, ud_eq]
    · rw [sset_ne _ _ (fun z => q (congrArg (·.2.2.1) z)), sset_ne _ _ (nek (by decide)), if_neg q]
  refine ⟨⟨?_, ?_, hn, ?_, ?_, ?_, fun e he => ?_, fun e q he hq => ?_, fun e q he hq => ?_, fun d hd => ?_, fun d hd => ?_⟩, fun e2 d2 he hd2 => ?_, ?_, h.acb, h.mb, h.tb⟩
  · rw [r1, ud_eq]
  · rw [r30, ud_eq]
  · rw [r30, ud_ne _ _ (by decide), th_30 (by decide)]; exact g.mJ
  · rw [r1, ud_ne _ _ (by decide)]; exact g.tI
  · rw [r30, ud_ne _ _ (by decide), th_30 (by decide)]; exact g.tJ
  · rw [r4, r32]
    by_cases q : e = n
    · rw [if_pos q, q, ud_eq]
    · rw [if_neg q, ud_ne _ _ q]; exact g.ow e he
  · rw [s1 _ (kz rfl) (kz rfl) (kz rfl), s2 _ (kz rfl) (kz rfl) (kz rfl)]; exact g.sh e q he hq
  · rw [s1 _ (kz rfl) (kz rfl) (kz rfl)]; exact g.sv e q he hq
  · rw [s1 _ (kz rfl) (kz rfl) (kz rfl)]; exact g.aI d hd
  · rw [s2 _ (kz rfl) (kz rfl) (kz rfl)]; exact g.aJ d hd
  · have hc := h.cp e2 d2 he hd2
    have o10 : ∀ kk, (kk = 10 ∨ kk = 11 ∨ kk = 13 ∨ kk = 15) → mkeM I 0 d n (kk, 0, e2, d2) = I (kk, 0, e2, d2) := fun kk hk => s1 _ (by show kk ≠ 1; omega) (by show kk ≠ 4; omega) (by show kk ≠ 9; omega)
    have j35 := s2 (35, 0, 0, 0) (kz rfl) (kz rfl) (kz rfl)
    have j36 := s2 (36, 0, 0, 0) (kz rfl) (kz rfl) (kz rfl)
    have j37 := s2 (37, 0, 0, 0) (kz rfl) (kz rfl) (kz rfl)
    have j38 := s2 (38, 0, 0, 0) (kz rfl) (kz rfl) (kz rfl)
    have j39 := s2 (39, 0, 0, 0) (kz rfl) (kz rfl) (kz rfl)
    by_cases q : e2 = n ∧ d2 = d
    · obtain ⟨rfl, rfl⟩ := q
      refine ⟨?_, ?_, fun c hcc => ?_, fun c hcc => ?_, fun c hcc => ?_, fun c hcc hne => ?_, fun c hcc hne => ?_, fun c hcc => ?_, fun c hcc => ?_⟩
      · rw [r9, r34, ud_eq, ud_eq]
      · rw [r9, ud_ne _ _ (by decide), j38]; exact hc.nt
      · rw [o10 10 (by decide), j35]; exact hc.ac_ c hcc
      · rw [o10 13 (by decide), j37]; exact hc.se c hcc
      · rw [o10 15 (by decide), j39]; exact hc.no c hcc
      · rw [o10 10 (by decide)] at hne ⊢; rw [o10 11 (by decide)]; exact hc.to c hcc hne
      · rw [o10 10 (by decide)] at hne ⊢; rw [j36]; exact hc.va c hcc hne
      · rw [o10 10 (by decide)]; exact hc.av c hcc
      · rw [o10 13 (by decide)]; exact hc.sv c hcc
    · refine cp_of hc (fun kk hk => ?_) ?_ (by rw [j38]) (fun c _ => ⟨by rw [j35], by rw [j36], by rw [j37], by rw [j39]⟩) (fun _ _ _ _ _ => rfl) (fun _ => Nat.le_refl _)
      · by_cases z : kk = 9
        · subst z; exact r9' e2 d2 q
        · exact o10 kk (by omega)
      · rw [r34, ud_ne _ _ (by omega)]
  · exact mk_of h.mk (fun e j _ => s1 _ (kz rfl) (kz rfl) (kz rfl)) (fun e j _ => s1 _ (kz rfl) (kz rfl) (kz rfl)) (s2 _ (kz rfl) (kz rfl) (kz rfl)) (s2 _ (kz rfl) (kz rfl) (kz rfl)) (s2 _ (kz rfl) (kz rfl) (kz rfl)) (Nat.le_refl _)
end KEEP
