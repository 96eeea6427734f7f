/-! a cell merged, here and there -/
theorem le0z {a : Int32} (h : 0 ≤ a.toInt) : a ≤ 0 ↔ a = 0 := by
  rw [Int32.le_iff_toInt_le, i_zero]
  exact ⟨fun q => i_ext (by rw [i_zero]; omega), fun q => by rw [q, i_zero]; omega⟩
theorem nle0 {a z : Int32} (h : 0 ≤ z.toInt) (q : ¬ a ≤ z) : ¬ a ≤ 0 := by
  rw [Int32.le_iff_toInt_le] at q ⊢
  rw [i_zero]
  omega
theorem mgF_iff {a b sq : Int32} : mgF a b sq = true ↔ (¬ a ≤ 0 ∧ (a = b ∨ ¬ a ≤ sq)) := by
  unfold mgF
  rw [Bool.and_eq_true, Bool.or_eq_true, Bool.not_eq_true', Bool.not_eq_true', decide_eq_false_iff_not, decide_eq_false_iff_not, decide_eq_true_iff]
theorem mgS_iff {a b sp : Int32} : mgS a b sp = true ↔ (¬ b ≤ 0 ∧ (a = b ∨ ¬ b ≤ sp)) := by
  unfold mgS
  rw [Bool.and_eq_true, Bool.or_eq_true, Bool.not_eq_true', Bool.not_eq_true', decide_eq_false_iff_not, decide_eq_false_iff_not, decide_eq_true_iff]
theorem mgX_iff {s a : Int32} : mgX s a = true ↔ (¬ s ≤ 0 ∧ ¬ s = a) := by
  unfold mgX
  rw [Bool.and_eq_true, Bool.not_eq_true', Bool.not_eq_true', decide_eq_false_iff_not, decide_eq_false_iff_not]
theorem b_false {b : Bool} (h : ¬ b = true) : b = false := by cases b with | false => rfl | true => exact absurd rfl h
/-- what a cell holds behind a merging: as before, or the one's or the other's -/
theorem br_cell {a b sa sb va vb ta tb : Int32} (ha : 0 ≤ a.toInt) (hb : 0 ≤ b.toInt) (hsa : 0 ≤ sa.toInt) (hsb : 0 ≤ sb.toInt) :
    (a = b ∧ (∀ own x y, bX own a b sa sb x y = own) ∧ mgA a b sa sb = a ∧ (a ≠ 0 → mgV a b sb va vb = va) ∧ bR a b sa sb = 0 ∧ mgX (mgA a b sa sb) a = false ∧ mgX (mgA a b sa sb) b = false) ∨
    (a ≠ b ∧ (∀ own x y, bX own a b sa sb x y = x) ∧ a ≠ 0 ∧ mgA a b sa sb = a ∧ mgV a b sb va vb = va ∧ bR a b sa sb = 1 ∧ mgX (mgA a b sa sb) a = false ∧ mgX (mgA a b sa sb) b = true) ∨
    (a ≠ b ∧ (∀ own x y, bX own a b sa sb x y = y) ∧ b ≠ 0 ∧ mgA a b sa sb = b ∧ mgV a b sb va vb = vb ∧ bR a b sa sb = 1 ∧ mgX (mgA a b sa sb) a = true ∧ mgX (mgA a b sa sb) b = false) ∨
    (a ≠ b ∧ (∀ own x y, bX own a b sa sb x y = 0) ∧ mgA a b sa sb = 0 ∧ bR a b sa sb = 0 ∧ mgX (mgA a b sa sb) a = false ∧ mgX (mgA a b sa sb) b = false) := by
  have nX0 : ∀ x, mgX 0 x = false := fun x => b_false (fun q => (mgX_iff.mp q).1 (Int32.le_refl 0))
  by_cases hab : a = b
  · left
    subst hab
    have e1 : ∀ own x y, bX own a a sa sb x y = own := fun own x y => by unfold bX; rw [if_pos rfl]
    have e2 : bR a a sa sb = 0 := by unfold bR; rw [if_pos rfl]
    by_cases h0 : a = 0
    · subst h0
      have f1 : mgF 0 0 sb = false := b_false (fun q => (mgF_iff.mp q).1 (Int32.le_refl 0))
      have f2 : mgS 0 0 sa = false := b_false (fun q => (mgS_iff.mp q).1 (Int32.le_refl 0))
      have f3 : mgA 0 0 sa sb = 0 := by unfold mgA; rw [f1, f2]; rfl
      refine ⟨rfl, e1, f3, fun q => absurd rfl q, e2, ?_, ?_⟩ <;> rw [f3] <;> exact nX0 _
    · have f1 : mgF a a sb = true := mgF_iff.mpr ⟨fun q => h0 ((le0z ha).mp q), Or.inl rfl⟩
      have f3 : mgA a a sa sb = a := by unfold mgA; rw [f1]; rfl
      refine ⟨rfl, e1, f3, fun _ => by unfold mgV; rw [f1]; rfl, e2, ?_, ?_⟩ <;> rw [f3] <;> exact b_false (fun q => (mgX_iff.mp q).2 rfl)
  · right
    by_cases h1 : a ≤ sb
    · right
      have f1 : mgF a b sb = false := b_false (fun q => (mgF_iff.mp q).2.elim hab (fun z => z h1))
      by_cases h2 : b ≤ sa
      · right
        have f2 : mgS a b sa = false := b_false (fun q => (mgS_iff.mp q).2.elim hab (fun z => z h2))
        have f3 : mgA a b sa sb = 0 := by unfold mgA; rw [f1, f2]; rfl
        have e1 : ∀ own x y, bX own a b sa sb x y = 0 := fun own x y => by unfold bX; rw [if_neg hab, if_pos h1, if_pos h2]
        refine ⟨hab, e1, f3, ?_, ?_, ?_⟩
        · unfold bR; rw [if_neg hab, if_pos (e1 _ _ _)]
        · rw [f3]; exact nX0 _
        · rw [f3]; exact nX0 _
      · left
        have hb0 := nle0 hsa h2
        have hbn : b ≠ 0 := fun q => hb0 (by rw [q]; exact Int32.le_refl 0)
        have f2 : mgS a b sa = true := mgS_iff.mpr ⟨hb0, Or.inr h2⟩
        have f3 : mgA a b sa sb = b := by unfold mgA; rw [f1, f2]; rfl
        have e1 : ∀ own x y, bX own a b sa sb x y = y := fun own x y => by unfold bX; rw [if_neg hab, if_pos h1, if_neg h2]
        refine ⟨hab, e1, hbn, f3, by unfold mgV; rw [f1]; rfl, ?_, ?_, ?_⟩
        · unfold bR; rw [if_neg hab, if_neg (by rw [e1]; exact hbn)]
        · rw [f3]; exact mgX_iff.mpr ⟨hb0, fun q => hab q.symm⟩
        · rw [f3]; exact b_false (fun q => (mgX_iff.mp q).2 rfl)
    · left
      have ha0 := nle0 hsb h1
      have han : a ≠ 0 := fun q => ha0 (by rw [q]; exact Int32.le_refl 0)
      have f1 : mgF a b sb = true := mgF_iff.mpr ⟨ha0, Or.inr h1⟩
      have f3 : mgA a b sa sb = a := by unfold mgA; rw [f1]; rfl
      have e1 : ∀ own x y, bX own a b sa sb x y = x := fun own x y => by unfold bX; rw [if_neg hab, if_neg h1]
      refine ⟨hab, e1, han, f3, by unfold mgV; rw [f1]; rfl, ?_, ?_, ?_⟩
      · unfold bR; rw [if_neg hab, if_neg (by rw [e1]; exact han)]
      · rw [f3]; exact b_false (fun q => (mgX_iff.mp q).2 rfl)
      · rw [f3]; exact mgX_iff.mpr ⟨ha0, hab⟩
section KEEP5
variable {I J I' J' : Mem} {L L' : Nat → Nat → Int32 → Int32} {n m t t' : Nat} {ac ac' mcs : Nat → Nat} {e d o : Nat}
theorem mgs_rows {p q : Nat} : mgsM J p q (35, 0, 0, 0) = upd (upd (J (35, 0, 0, 0)) p (mgsA J p q)) q (mgsA J p q) ∧ mgsM J p q (36, 0, 0, 0) = upd (upd (J (36, 0, 0, 0)) p (mgsV J p q)) q (mgsV J p q) ∧ mgsM J p q (37, 0, 0, 0) = upd (upd (J (37, 0, 0, 0)) p (imax (J (37, 0, 0, 0) p) (J (37, 0, 0, 0) q))) q (imax (J (37, 0, 0, 0) p) (J (37, 0, 0, 0) q)) ∧ mgsM J p q (30, 0, 0, 0) = upd (J (30, 0, 0, 0)) 3 (mgsG J p q) := by
  unfold mgsM
  refine ⟨?_, ?_, ?_, ?_⟩
  · rw [sset_ne _ _ (nek (by decide)), sset_ne _ _ (nek (by decide)), sset_eq]
  · rw [sset_ne _ _ (nek (by decide)), sset_eq]
  · rw [sset_eq]
  · rw [sset_ne _ _ (nek (by decide)), sset_ne _ _ (nek (by decide)), sset_ne _ _ (nek (by decide)), sset_eq]
/-- the cells of a field, merged up to one -/
abbrev inF (d o e f k d2 e2 c : Nat) : Prop := e2 = e ∧ (d2 = d ∨ d2 = o) ∧ 6 * f ≤ c ∧ c < 6 * f + k
theorem jf_rows {f : Nat} (he : e < 10) (hf : f < 4) (hne : d ≠ o) : ∀ k, k ≤ 6 → ∀ d2 e2 c, e2 < 10 → c < 24 →
    (jfM J d o e f k (35, 0, 0, 0) (cl d2 e2 c) = if inF d o e f k d2 e2 c then mgsA J (cl d e c) (cl o e c) else J (35, 0, 0, 0) (cl d2 e2 c)) ∧
    (jfM J d o e f k (36, 0, 0, 0) (cl d2 e2 c) = if inF d o e f k d2 e2 c then mgsV J (cl d e c) (cl o e c) else J (36, 0, 0, 0) (cl d2 e2 c)) ∧
    (jfM J d o e f k (37, 0, 0, 0) (cl d2 e2 c) = if inF d o e f k d2 e2 c then imax (J (37, 0, 0, 0) (cl d e c)) (J (37, 0, 0, 0) (cl o e c)) else J (37, 0, 0, 0) (cl d2 e2 c))
  | 0, _, d2, e2, c, _, _ => by
    have : ¬ inF d o e f 0 d2 e2 c := by unfold inF; omega
    rw [if_neg this, if_neg this, if_neg this]
    exact ⟨rfl, rfl, rfl⟩
  | k + 1, hk, d2, e2, c, he2, hc => by
    have ih := jf_rows he hf hne k (by omega)
    have p1 : 24 * (10 * d + e) + 6 * f + k = cl d e (6 * f + k) := by unfold cl; omega
    have p2 : 24 * (10 * o + e) + 6 * f + k = cl o e (6 * f + k) := by unfold cl; omega
    rw [jfM, p1, p2]
    generalize hX : jfM J d o e f k = X at ih ⊢
    obtain ⟨r35, r36, r37, -⟩ := mgs_rows (J := X) (p := cl d e (6 * f + k)) (q := cl o e (6 * f + k))
    have hcc : 6 * f + k < 24 := by omega
    have n1 : ∀ x, ¬ inF d o e f k x e (6 * f + k) := fun x => by unfold inF; omega
    obtain ⟨a1, a2, a3⟩ := ih d e (6 * f + k) he hcc
    obtain ⟨b1, b2, b3⟩ := ih o e (6 * f + k) he hcc
    rw [if_neg (n1 _)] at a1 a2 a3 b1 b2 b3
    have gA_ : mgsA X (cl d e (6 * f + k)) (cl o e (6 * f + k)) = mgsA J (cl d e (6 * f + k)) (cl o e (6 * f + k)) := by unfold mgsA; rw [a1, b1, a3, b3]
    have gV_ : mgsV X (cl d e (6 * f + k)) (cl o e (6 * f + k)) = mgsV J (cl d e (6 * f + k)) (cl o e (6 * f + k)) := by unfold mgsV; rw [a1, b1, b3, a2, b2]
    rw [r35, r36, r37, gA_, gV_, a3, b3]
    obtain ⟨i1, i2, i3⟩ := ih d2 e2 c he2 hc
    by_cases q2 : e2 = e ∧ d2 = o ∧ c = 6 * f + k
    · obtain ⟨rfl, rfl, rfl⟩ := q2
      have y : inF d d2 e2 f (k + 1) d2 e2 (6 * f + k) := by unfold inF; omega
      rw [if_pos y, if_pos y, if_pos y, ud_eq, ud_eq, ud_eq]
      exact ⟨rfl, rfl, rfl⟩
    · have z2 : cl d2 e2 c ≠ cl o e (6 * f + k) := fun z => by have := cl_inj he2 he hc hcc z; exact q2 ⟨this.2.1, this.1, this.2.2⟩
      rw [ud_ne _ _ z2, ud_ne _ _ z2, ud_ne _ _ z2]
      by_cases q1 : e2 = e ∧ d2 = d ∧ c = 6 * f + k
      · obtain ⟨rfl, rfl, rfl⟩ := q1
        have y : inF d2 o e2 f (k + 1) d2 e2 (6 * f + k) := by unfold inF; omega
        rw [if_pos y, if_pos y, if_pos y, ud_eq, ud_eq, ud_eq]
        exact ⟨rfl, rfl, rfl⟩
      · have z1 : cl d2 e2 c ≠ cl d e (6 * f + k) := fun z => by have := cl_inj he2 he hc hcc z; exact q1 ⟨this.2.1, this.1, this.2.2⟩
        rw [ud_ne _ _ z1, ud_ne _ _ z1, ud_ne _ _ z1, i1, i2, i3]
        have y : inF d o e f (k + 1) d2 e2 c ↔ inF d o e f k d2 e2 c := by unfold inF; omega
        simp only [y]
        exact ⟨trivial, trivial, trivial⟩
theorem jf_gain (hR : Rel I J L n m t ac mcs) (he : e < 10) (hd : d < 6) (ho : o < 6) {f : Nat} (hf : f < 4) (hne : d ≠ o) : ∀ k, k ≤ 6 → jfM J d o e f k (30, 0, 0, 0) 3 = J (30, 0, 0, 0) 3 + sumI (fun i => gR (I (10, 0, e, d)) (I (10, 0, e, o)) (I (13, 0, e, d)) (I (13, 0, e, o)) (f * 6 + i)) k
  | 0, _ => (Int32.add_zero _).symm
  | k + 1, hk => by
    have ih := jf_gain hR he hd ho hf hne k (by omega)
    have p1 : 24 * (10 * d + e) + 6 * f + k = cl d e (6 * f + k) := by unfold cl; omega
    have p2 : 24 * (10 * o + e) + 6 * f + k = cl o e (6 * f + k) := by unfold cl; omega
    have hcc : 6 * f + k < 24 := by omega
    have n1 : ∀ x, ¬ inF d o e f k x e (6 * f + k) := fun x => by unfold inF; omega
    obtain ⟨a1, a2, a3⟩ := jf_rows (J := J) he hf hne k (by omega) d e (6 * f + k) he hcc
    obtain ⟨b1, b2, b3⟩ := jf_rows (J := J) he hf hne k (by omega) o e (6 * f + k) he hcc
    rw [if_neg (n1 _)] at a1 a2 a3 b1 b2 b3
    rw [jfM, p1, p2, mgs_rows.2.2.2, ud_eq]
    unfold mgsG mgsA
    rw [a1, b1, a3, b3, ih, sumI, show f * 6 + k = 6 * f + k by omega]
    have h1 := hR.cp e d he hd
    have h2 := hR.cp e o he ho
    unfold gR
    rw [h1.ac_ _ hcc, h2.ac_ _ hcc, h1.se _ hcc, h2.se _ hcc]
    have x1 := (h1.av _ hcc).1
    have x2 := (h2.av _ hcc).1
    have x3 := h1.sv _ hcc
    have x4 := h2.sv _ hcc
    rw [h1.ac_ _ hcc] at x1
    rw [h2.ac_ _ hcc] at x2
    rw [h1.se _ hcc] at x3
    rw [h2.se _ hcc] at x4
    rw [Int32.add_assoc, Int32.add_assoc]
    congr 1
    congr 1
    rcases br_cell (va := 0) (vb := 0) (ta := 0) (tb := 0) x1 x2 x3 x4 with ⟨-, -, -, -, q1, q2, q3⟩ | ⟨-, -, -, -, -, q1, q2, q3⟩ | ⟨-, -, -, -, -, q1, q2, q3⟩ | ⟨-, -, -, q1, q2, q3⟩ <;> rw [q1, q2, q3] <;> rfl
theorem braid_at {lo hi : Nat} (hne : d ≠ o) :
    braidM lo hi I 0 e d o (10, 0, e, d) = rf lo hi (gA (I (10, 0, e, d)) (I (10, 0, e, o)) (I (13, 0, e, d)) (I (13, 0, e, o))) (I (10, 0, e, d)) ∧
    braidM lo hi I 0 e d o (11, 0, e, d) = rf lo hi (gT (I (10, 0, e, d)) (I (10, 0, e, o)) (I (13, 0, e, d)) (I (13, 0, e, o)) (I (11, 0, e, d)) (I (11, 0, e, o))) (I (11, 0, e, d)) ∧
    braidM lo hi I 0 e d o (10, 0, e, o) = rf lo hi (gB (I (10, 0, e, d)) (I (10, 0, e, o)) (I (13, 0, e, d)) (I (13, 0, e, o))) (I (10, 0, e, o)) ∧
    braidM lo hi I 0 e d o (11, 0, e, o) = rf lo hi (gU (I (10, 0, e, d)) (I (10, 0, e, o)) (I (13, 0, e, d)) (I (13, 0, e, o)) (I (11, 0, e, d)) (I (11, 0, e, o))) (I (11, 0, e, o)) ∧
    braidM lo hi I 0 e d o (13, 0, e, d) = rf lo hi (gM (I (13, 0, e, d)) (I (13, 0, e, o))) (I (13, 0, e, d)) ∧
    braidM lo hi I 0 e d o (13, 0, e, o) = rf lo hi (gM (I (13, 0, e, d)) (I (13, 0, e, o))) (I (13, 0, e, o)) := by
  have dn : ∀ kk, ((kk, 0, e, d) : KN) ≠ (kk, 0, e, o) := fun kk z => hne (congrArg (·.2.2.2) z)
  unfold braidM
  refine ⟨?_, ?_, ?_, ?_, ?_, ?_⟩
  · rw [sset_ne _ _ (nek (by decide)), sset_ne _ _ (nek (by decide)), sset_ne _ _ (nek (by decide)), sset_ne _ _ (dn 10), sset_ne _ _ (nek (by decide)), sset_eq]
  · rw [sset_ne _ _ (nek (by decide)), sset_ne _ _ (nek (by decide)), sset_ne _ _ (dn 11), sset_ne _ _ (nek (by decide)), sset_eq]
  · rw [sset_ne _ _ (nek (by decide)), sset_ne _ _ (nek (by decide)), sset_ne _ _ (nek (by decide)), sset_eq]
  · rw [sset_ne _ _ (nek (by decide)), sset_ne _ _ (nek (by decide)), sset_eq]
  · rw [sset_ne _ _ (dn 13), sset_eq]
  · rw [sset_eq]
theorem braid_oth {lo hi : Nat} {k : KN} (h1 : k.2 ≠ (0, e, d)) (h2 : k.2 ≠ (0, e, o)) : braidM lo hi I 0 e d o k = I k := by
  unfold braidM
  rw [sset_ne _ _ (fun z => h2 (congrArg (·.2) z)), sset_ne _ _ (fun z => h1 (congrArg (·.2) z)), sset_ne _ _ (fun z => h2 (congrArg (·.2) z)), sset_ne _ _ (fun z => h2 (congrArg (·.2) z)), sset_ne _ _ (fun z => h1 (congrArg (·.2) z)), sset_ne _ _ (fun z => h1 (congrArg (·.2) z))]
theorem rel_braid (h : Rel I J L n m t ac mcs) (he : e < 10) (hd : d < 6) (ho : o < 6) {f : Nat} (hf : f < 4) (hne : d ≠ o) : Rel (braidM (f * 6) (f * 6 + 6) I 0 e d o) (jfM J d o e f 6) L n m t ac mcs := by
  have hs : ∀ k : KN, k.1 ≠ 10 → k.1 ≠ 11 → k.1 ≠ 13 → braidM (f * 6) (f * 6 + 6) I 0 e d o k = I k := fun k a b c => braid_ne a b c
  have hj : ∀ k : KN, k.1 ≠ 30 → k.1 ≠ 35 → k.1 ≠ 36 → k.1 ≠ 37 → jfM J d o e f 6 k = J k := fun k a b c d => jf_see a b c d 6
  obtain ⟨i10, i11, o10, o11, i13, o13⟩ := braid_at (I := I) (e := e) (lo := f * 6) (hi := f * 6 + 6) hne
  refine ⟨gl_of h.gl (hs _ (kz rfl) (kz rfl) (kz rfl)) (hs _ (kz rfl) (kz rfl) (kz rfl)) (fun _ => hs _ (kz rfl) (kz rfl) (kz rfl)) (fun _ => hs _ (kz rfl) (kz rfl) (kz rfl)) (fun j hj3 => jf_30 (by omega) 6) (hj _ (kz rfl) (kz rfl) (kz rfl) (kz rfl)) (hj _ (kz rfl) (kz rfl) (kz rfl) (kz rfl)) (hj _ (kz rfl) (kz rfl) (kz rfl) (kz rfl)), fun e2 d2 he2 hd2 => ?_, mk_of h.mk (fun _ _ _ => hs _ (kz rfl) (kz rfl) (kz rfl)) (fun _ _ _ => hs _ (kz rfl) (kz rfl) (kz rfl)) (hj _ (kz rfl) (kz rfl) (kz rfl) (kz rfl)) (hj _ (kz rfl) (kz rfl) (kz rfl) (kz rfl)) (hj _ (kz rfl) (kz rfl) (kz rfl) (kz rfl)) (Nat.le_refl _), h.acb, h.mb, h.tb⟩
  have hc := h.cp e2 d2 he2 hd2
  have rows := jf_rows (J := J) (d := d) (o := o) he hf hne 6 (Nat.le_refl 6) d2 e2
  have h1 := h.cp e d he hd
  have h2 := h.cp e o he ho
  have cell := fun c (hcc : c < 24) => br_cell (va := J (36, 0, 0, 0) (cl d e c)) (vb := J (36, 0, 0, 0) (cl o e c)) (ta := 0) (tb := 0) (h1.av c hcc).1 (h2.av c hcc).1 (h1.sv c hcc) (h2.sv c hcc)
  have mA : ∀ c, c < 24 → mgsA J (cl d e c) (cl o e c) = mgA (I (10, 0, e, d) c) (I (10, 0, e, o) c) (I (13, 0, e, d) c) (I (13, 0, e, o) c) := fun c hcc => by
    unfold mgsA; rw [h1.ac_ c hcc, h2.ac_ c hcc, h1.se c hcc, h2.se c hcc]
  have mV : ∀ c, c < 24 → mgsV J (cl d e c) (cl o e c) = mgV (I (10, 0, e, d) c) (I (10, 0, e, o) c) (I (13, 0, e, o) c) (J (36, 0, 0, 0) (cl d e c)) (J (36, 0, 0, 0) (cl o e c)) := fun c hcc => by
    unfold mgsV; rw [h1.ac_ c hcc, h2.ac_ c hcc, h2.se c hcc]
  have inn : ∀ c, (f * 6 ≤ c ∧ c < f * 6 + 6) ↔ (6 * f ≤ c ∧ c < 6 * f + 6) := fun c => by omega
  by_cases q : e2 = e ∧ (d2 = d ∨ d2 = o)
  · obtain ⟨rfl, q⟩ := q
    -- of either device: the rows by cells
    have key : ∃ gx gy : Nat → Int32, braidM (f * 6) (f * 6 + 6) I 0 e2 d o (10, 0, e2, d2) = rf (f * 6) (f * 6 + 6) gx (I (10, 0, e2, d2)) ∧ braidM (f * 6) (f * 6 + 6) I 0 e2 d o (11, 0, e2, d2) = rf (f * 6) (f * 6 + 6) gy (I (11, 0, e2, d2)) ∧ braidM (f * 6) (f * 6 + 6) I 0 e2 d o (13, 0, e2, d2) = rf (f * 6) (f * 6 + 6) (gM (I (13, 0, e2, d)) (I (13, 0, e2, o))) (I (13, 0, e2, d2)) ∧
        ∀ c, c < 24 → gx c = bX (I (10, 0, e2, d2) c) (I (10, 0, e2, d) c) (I (10, 0, e2, o) c) (I (13, 0, e2, d) c) (I (13, 0, e2, o) c) (I (10, 0, e2, d) c) (I (10, 0, e2, o) c) ∧ gy c = bX (I (11, 0, e2, d2) c) (I (10, 0, e2, d) c) (I (10, 0, e2, o) c) (I (13, 0, e2, d) c) (I (13, 0, e2, o) c) (I (11, 0, e2, d) c) (I (11, 0, e2, o) c) := by
      rcases q with rfl | rfl
      · exact ⟨_, _, i10, i11, i13, fun c _ => ⟨rfl, rfl⟩⟩
      · exact ⟨_, _, o10, o11, o13, fun c _ => ⟨rfl, rfl⟩⟩
    obtain ⟨gx, gy, k10, k11, k13, kg⟩ := key
    have hAB : ∀ c, I (10, 0, e2, d) c = I (10, 0, e2, o) c → I (10, 0, e2, d2) c = I (10, 0, e2, d) c := fun c z => by
      rcases q with rfl | rfl
      · rfl
      · exact z.symm
    have hF : ∀ c, c < 24 → (f * 6 ≤ c ∧ c < f * 6 + 6) → gx c = mgA (I (10, 0, e2, d) c) (I (10, 0, e2, o) c) (I (13, 0, e2, d) c) (I (13, 0, e2, o) c) ∧ (gx c ≠ 0 → gy c = L e2 c (gx c) ∧ mgsV J (cl d e2 c) (cl o e2 c) = L e2 c (gx c)) ∧ (0 ≤ (gx c).toInt ∧ (gx c).toInt ≤ ac (c % 6)) := fun c hcc _ => by
      rw [(kg c hcc).1, (kg c hcc).2, mV c hcc]
      have a1 := h1.av c hcc
      have a2 := h2.av c hcc
      rcases cell c hcc with ⟨z1, z2, z3, z4, -⟩ | ⟨-, z2, z0, z3, z4, -⟩ | ⟨-, z2, z0, z3, z4, -⟩ | ⟨-, z2, z3, -⟩
      · rw [z2, z2, z3]
        have zz := hAB c z1
        refine ⟨zz, fun hn => ⟨hc.to c hcc hn, ?_⟩, hc.av c hcc⟩
        rw [zz] at hn ⊢
        rw [z4 hn]
        exact h1.va c hcc hn
      · rw [z2, z2, z3, z4]
        exact ⟨rfl, fun hn => ⟨h1.to c hcc hn, h1.va c hcc hn⟩, a1⟩
      · rw [z2, z2, z3, z4]
        exact ⟨rfl, fun hn => ⟨h2.to c hcc hn, h2.va c hcc hn⟩, a2⟩
      · rw [z2, z2, z3]
        exact ⟨rfl, fun hn => absurd rfl hn, by rw [i_zero]; omega⟩
    have iF : ∀ c, (f * 6 ≤ c ∧ c < f * 6 + 6) → inF d o e2 f 6 d2 e2 c := fun c z => ⟨rfl, q, (inn c).mp z⟩
    have nF : ∀ c, ¬ (f * 6 ≤ c ∧ c < f * 6 + 6) → ¬ inF d o e2 f 6 d2 e2 c := fun c z y => z ((inn c).mpr y.2.2)
    refine ⟨?_, ?_, fun c hcc => ?_, fun c hcc => ?_, fun c hcc => ?_, fun c hcc hn => ?_, fun c hcc hn => ?_, fun c hcc => ?_, fun c hcc => ?_⟩
    · rw [hs _ (kz rfl) (kz rfl) (kz rfl), hj _ (kz rfl) (kz rfl) (kz rfl) (kz rfl)]; exact hc.kn
    · rw [hs _ (kz rfl) (kz rfl) (kz rfl), hj _ (kz rfl) (kz rfl) (kz rfl) (kz rfl)]; exact hc.nt
    · rw [k10, (rows c he2 hcc).1]
      by_cases z : f * 6 ≤ c ∧ c < f * 6 + 6
      · rw [rf_in z, if_pos (iF c z), mA c hcc]; exact (hF c hcc z).1
      · rw [rf_out z, if_neg (nF c z)]; exact hc.ac_ c hcc
    · rw [k13, (rows c he2 hcc).2.2]
      by_cases z : f * 6 ≤ c ∧ c < f * 6 + 6
      · rw [rf_in z, if_pos (iF c z), ← h1.se c hcc, ← h2.se c hcc]; rfl
      · rw [rf_out z, if_neg (nF c z)]; exact hc.se c hcc
    · rw [hs _ (kz rfl) (kz rfl) (kz rfl), hj _ (kz rfl) (kz rfl) (kz rfl) (kz rfl)]; exact hc.no c hcc
    · rw [k10] at hn ⊢
      rw [k11]
      by_cases z : f * 6 ≤ c ∧ c < f * 6 + 6
      · rw [rf_in z] at hn ⊢
        rw [rf_in z]
        exact ((hF c hcc z).2.1 hn).1
      · rw [rf_out z] at hn ⊢
        rw [rf_out z]
        exact hc.to c hcc hn
    · rw [k10] at hn ⊢
      rw [(rows c he2 hcc).2.1]
      by_cases z : f * 6 ≤ c ∧ c < f * 6 + 6
      · rw [rf_in z] at hn ⊢
        rw [if_pos (iF c z)]
        exact ((hF c hcc z).2.1 hn).2
      · rw [rf_out z] at hn ⊢
        rw [if_neg (nF c z)]
        exact hc.va c hcc hn
    · rw [k10]
      by_cases z : f * 6 ≤ c ∧ c < f * 6 + 6
      · rw [rf_in z]; exact (hF c hcc z).2.2
      · rw [rf_out z]; exact hc.av c hcc
    · rw [k13]
      by_cases z : f * 6 ≤ c ∧ c < f * 6 + 6
      · rw [rf_in z]
        unfold gM
        rw [i_imax]
        have := h1.sv c hcc
        omega
      · rw [rf_out z]; exact hc.sv c hcc
  · have nF : ∀ c, ¬ inF d o e f 6 d2 e2 c := fun c y => q ⟨y.1, y.2.1⟩
    refine cp_of hc (fun kk hkk => braid_oth (fun z => q ⟨congrArg (·.2.1) z, Or.inl (congrArg (·.2.2) z)⟩) (fun z => q ⟨congrArg (·.2.1) z, Or.inr (congrArg (·.2.2) z)⟩)) (by rw [hj _ (kz rfl) (kz rfl) (kz rfl) (kz rfl)]) (by rw [hj _ (kz rfl) (kz rfl) (kz rfl) (kz rfl)]) (fun c hcc => ⟨?_, ?_, ?_, by rw [hj _ (kz rfl) (kz rfl) (kz rfl) (kz rfl)]⟩) (fun _ _ _ _ _ => rfl) (fun _ => Nat.le_refl _)
    · rw [(rows c he2 hcc).1, if_neg (nF c)]
    · rw [(rows c he2 hcc).2.1, if_neg (nF c)]
    · rw [(rows c he2 hcc).2.2, if_neg (nF c)]
end KEEP5
