/-! the class's books and the reference side by side -/
theorem allB_congr {p q : Nat → Bool} : ∀ {n : Nat}, (∀ j, j < n → p j = q j) → allB p n = allB q n
  | 0, _ => rfl
  | n + 1, h => by rw [allB, allB, allB_congr (fun j hj => h j (Nat.lt_succ_of_lt hj)), h n (Nat.lt_succ_self n)]
theorem cntN_add (p : Nat → Bool) (a : Nat) : ∀ b, cntN p (a + b) = cntN p a + cntN (fun k => p (a + k)) b
  | 0 => rfl
  | b + 1 => by rw [show a + (b + 1) = (a + b) + 1 from rfl, cntN, cntN, cntN_add p a b, Nat.add_assoc]
/-- the reference's cells of a device's entry -/
abbrev cl (d e c : Nat) : Nat := 24 * (10 * d + e) + c
/-- a device's entry, here and there -/
def Cp (I J : Mem) (L : Nat → Nat → Int32 → Int32) (ac : Nat → Nat) (e d : Nat) : Prop :=
  (I (9, 0, e, d) 0 = J (34, 0, 0, 0) (10 * d + e)) ∧
  (I (9, 0, e, d) 1 = J (38, 0, 0, 0) (10 * d + e)) ∧
  (∀ c, c < 24 → I (10, 0, e, d) c = J (35, 0, 0, 0) (cl d e c)) ∧
  (∀ c, c < 24 → I (13, 0, e, d) c = J (37, 0, 0, 0) (cl d e c)) ∧
  (∀ c, c < 24 → I (15, 0, e, d) c = J (39, 0, 0, 0) (cl d e c)) ∧
  (∀ c, c < 24 → I (10, 0, e, d) c ≠ 0 → I (11, 0, e, d) c = L e c (I (10, 0, e, d) c)) ∧
  (∀ c, c < 24 → I (10, 0, e, d) c ≠ 0 → J (36, 0, 0, 0) (cl d e c) = L e c (I (10, 0, e, d) c)) ∧
  (∀ c, c < 24 → 0 ≤ (I (10, 0, e, d) c).toInt ∧ (I (10, 0, e, d) c).toInt ≤ ac (c % 6)) ∧
  (∀ c, c < 24 → 0 ≤ (I (13, 0, e, d) c).toInt)
theorem Cp.kn {I J : Mem} {L : Nat → Nat → Int32 → Int32} {ac : Nat → Nat} {e d : Nat} (h : Cp I J L ac e d) : I (9, 0, e, d) 0 = J (34, 0, 0, 0) (10 * d + e) := h.1
theorem Cp.nt {I J : Mem} {L : Nat → Nat → Int32 → Int32} {ac : Nat → Nat} {e d : Nat} (h : Cp I J L ac e d) : I (9, 0, e, d) 1 = J (38, 0, 0, 0) (10 * d + e) := h.2.1
theorem Cp.ac_ {I J : Mem} {L : Nat → Nat → Int32 → Int32} {ac : Nat → Nat} {e d : Nat} (h : Cp I J L ac e d) : ∀ c, c < 24 → I (10, 0, e, d) c = J (35, 0, 0, 0) (cl d e c) := h.2.2.1
theorem Cp.se {I J : Mem} {L : Nat → Nat → Int32 → Int32} {ac : Nat → Nat} {e d : Nat} (h : Cp I J L ac e d) : ∀ c, c < 24 → I (13, 0, e, d) c = J (37, 0, 0, 0) (cl d e c) := h.2.2.2.1
theorem Cp.no {I J : Mem} {L : Nat → Nat → Int32 → Int32} {ac : Nat → Nat} {e d : Nat} (h : Cp I J L ac e d) : ∀ c, c < 24 → I (15, 0, e, d) c = J (39, 0, 0, 0) (cl d e c) := h.2.2.2.2.1
theorem Cp.to {I J : Mem} {L : Nat → Nat → Int32 → Int32} {ac : Nat → Nat} {e d : Nat} (h : Cp I J L ac e d) : ∀ c, c < 24 → I (10, 0, e, d) c ≠ 0 → I (11, 0, e, d) c = L e c (I (10, 0, e, d) c) := h.2.2.2.2.2.1
theorem Cp.va {I J : Mem} {L : Nat → Nat → Int32 → Int32} {ac : Nat → Nat} {e d : Nat} (h : Cp I J L ac e d) : ∀ c, c < 24 → I (10, 0, e, d) c ≠ 0 → J (36, 0, 0, 0) (cl d e c) = L e c (I (10, 0, e, d) c) := h.2.2.2.2.2.2.1
theorem Cp.av {I J : Mem} {L : Nat → Nat → Int32 → Int32} {ac : Nat → Nat} {e d : Nat} (h : Cp I J L ac e d) : ∀ c, c < 24 → 0 ≤ (I (10, 0, e, d) c).toInt ∧ (I (10, 0, e, d) c).toInt ≤ ac (c % 6) := h.2.2.2.2.2.2.2.1
theorem Cp.sv {I J : Mem} {L : Nat → Nat → Int32 → Int32} {ac : Nat → Nat} {e d : Nat} (h : Cp I J L ac e d) : ∀ c, c < 24 → 0 ≤ (I (13, 0, e, d) c).toInt := h.2.2.2.2.2.2.2.2
def Gl (I J : Mem) (n m t : Nat) (ac : Nat → Nat) : Prop :=
  (I (1, 0, 0, 0) 1 = nI n) ∧
  (J (30, 0, 0, 0) 1 = nI n) ∧
  (n ≤ 10) ∧
  (J (30, 0, 0, 0) 2 = nI m) ∧
  (I (1, 0, 0, 0) 0 = nI t) ∧
  (J (30, 0, 0, 0) 0 = nI t) ∧
  (∀ e, e < 10 → I (4, 0, e, 0) 0 = J (32, 0, 0, 0) e) ∧
  (∀ e q, e < 10 → q < 3 → I (5, 0, e, 0) q = J (33, 0, 0, 0) (3 * e + q)) ∧
  (∀ e q, e < 10 → q < 3 → ∃ x, x < 16 ∧ I (5, 0, e, 0) q = nI x) ∧
  (∀ d, d < 6 → I (2, 0, 0, 0) d = nI (ac d)) ∧
  (∀ d, d < 6 → J (31, 0, 0, 0) d = nI (ac d))
theorem Gl.nI_ {I J : Mem} {n m t : Nat} {ac : Nat → Nat} (h : Gl I J n m t ac) : I (1, 0, 0, 0) 1 = nI n := h.1
theorem Gl.nJ {I J : Mem} {n m t : Nat} {ac : Nat → Nat} (h : Gl I J n m t ac) : J (30, 0, 0, 0) 1 = nI n := h.2.1
theorem Gl.n10 {I J : Mem} {n m t : Nat} {ac : Nat → Nat} (h : Gl I J n m t ac) : n ≤ 10 := h.2.2.1
theorem Gl.mJ {I J : Mem} {n m t : Nat} {ac : Nat → Nat} (h : Gl I J n m t ac) : J (30, 0, 0, 0) 2 = nI m := h.2.2.2.1
theorem Gl.tI {I J : Mem} {n m t : Nat} {ac : Nat → Nat} (h : Gl I J n m t ac) : I (1, 0, 0, 0) 0 = nI t := h.2.2.2.2.1
theorem Gl.tJ {I J : Mem} {n m t : Nat} {ac : Nat → Nat} (h : Gl I J n m t ac) : J (30, 0, 0, 0) 0 = nI t := h.2.2.2.2.2.1
theorem Gl.ow {I J : Mem} {n m t : Nat} {ac : Nat → Nat} (h : Gl I J n m t ac) : ∀ e, e < 10 → I (4, 0, e, 0) 0 = J (32, 0, 0, 0) e := h.2.2.2.2.2.2.1
theorem Gl.sh {I J : Mem} {n m t : Nat} {ac : Nat → Nat} (h : Gl I J n m t ac) : ∀ e q, e < 10 → q < 3 → I (5, 0, e, 0) q = J (33, 0, 0, 0) (3 * e + q) := h.2.2.2.2.2.2.2.1
theorem Gl.sv {I J : Mem} {n m t : Nat} {ac : Nat → Nat} (h : Gl I J n m t ac) : ∀ e q, e < 10 → q < 3 → ∃ x, x < 16 ∧ I (5, 0, e, 0) q = nI x := h.2.2.2.2.2.2.2.2.1
theorem Gl.aI {I J : Mem} {n m t : Nat} {ac : Nat → Nat} (h : Gl I J n m t ac) : ∀ d, d < 6 → I (2, 0, 0, 0) d = nI (ac d) := h.2.2.2.2.2.2.2.2.2.1
theorem Gl.aJ {I J : Mem} {n m t : Nat} {ac : Nat → Nat} (h : Gl I J n m t ac) : ∀ d, d < 6 → J (31, 0, 0, 0) d = nI (ac d) := h.2.2.2.2.2.2.2.2.2.2
def Mk (I J : Mem) (m t : Nat) (mcs : Nat → Nat) : Prop :=
  (∀ e, e < 10 → mcs e = cntN (mo J e) m) ∧
  (∀ e k, e < 10 → k < m → mo J e k = true → ∀ c, c < 24 → I (18, 0, e, cntN (mo J e) k) c = J (41, 0, 0, 0) (24 * k + c)) ∧
  (∀ e k, e < 10 → k < m → mo J e k = true → ∀ d, d < 6 → I (19, 0, e, cntN (mo J e) k) d + 1 = J (42, 0, 0, 0) (6 * k + d)) ∧
  (∀ e j, e < 10 → j < mcs e → ∀ c, c < 24 → 0 ≤ (I (18, 0, e, j) c).toInt) ∧
  (∀ e j, e < 10 → j < mcs e → ∀ d, d < 6 → -1 ≤ (I (19, 0, e, j) d).toInt ∧ (I (19, 0, e, j) d).toInt ≤ t) ∧
  (∀ k d, m ≤ k → d < 6 → J (42, 0, 0, 0) (6 * k + d) = 0)
theorem Mk.ct {I J : Mem} {m t : Nat} {mcs : Nat → Nat} (h : Mk I J m t mcs) : ∀ e, e < 10 → mcs e = cntN (mo J e) m := h.1
theorem Mk.cp {I J : Mem} {m t : Nat} {mcs : Nat → Nat} (h : Mk I J m t mcs) : ∀ e k, e < 10 → k < m → mo J e k = true → ∀ c, c < 24 → I (18, 0, e, cntN (mo J e) k) c = J (41, 0, 0, 0) (24 * k + c) := h.2.1
theorem Mk.si {I J : Mem} {m t : Nat} {mcs : Nat → Nat} (h : Mk I J m t mcs) : ∀ e k, e < 10 → k < m → mo J e k = true → ∀ d, d < 6 → I (19, 0, e, cntN (mo J e) k) d + 1 = J (42, 0, 0, 0) (6 * k + d) := h.2.2.1
theorem Mk.cv {I J : Mem} {m t : Nat} {mcs : Nat → Nat} (h : Mk I J m t mcs) : ∀ e j, e < 10 → j < mcs e → ∀ c, c < 24 → 0 ≤ (I (18, 0, e, j) c).toInt := h.2.2.2.1
theorem Mk.sv {I J : Mem} {m t : Nat} {mcs : Nat → Nat} (h : Mk I J m t mcs) : ∀ e j, e < 10 → j < mcs e → ∀ d, d < 6 → -1 ≤ (I (19, 0, e, j) d).toInt ∧ (I (19, 0, e, j) d).toInt ≤ t := h.2.2.2.2.1
theorem Mk.zz {I J : Mem} {m t : Nat} {mcs : Nat → Nat} (h : Mk I J m t mcs) : ∀ k d, m ≤ k → d < 6 → J (42, 0, 0, 0) (6 * k + d) = 0 := h.2.2.2.2.2
def Rel (I J : Mem) (L : Nat → Nat → Int32 → Int32) (n m t : Nat) (ac mcs : Nat → Nat) : Prop :=
  (Gl I J n m t ac) ∧
  (∀ e d, e < 10 → d < 6 → Cp I J L ac e d) ∧
  (Mk I J m t mcs) ∧
  (∀ d, d < 6 → ac d ≤ 600) ∧
  (m ≤ 600) ∧
  (t ≤ 20000)
theorem Rel.gl {I J : Mem} {L : Nat → Nat → Int32 → Int32} {n m t : Nat} {ac mcs : Nat → Nat} (h : Rel I J L n m t ac mcs) : Gl I J n m t ac := h.1
theorem Rel.cp {I J : Mem} {L : Nat → Nat → Int32 → Int32} {n m t : Nat} {ac mcs : Nat → Nat} (h : Rel I J L n m t ac mcs) : ∀ e d, e < 10 → d < 6 → Cp I J L ac e d := h.2.1
theorem Rel.mk {I J : Mem} {L : Nat → Nat → Int32 → Int32} {n m t : Nat} {ac mcs : Nat → Nat} (h : Rel I J L n m t ac mcs) : Mk I J m t mcs := h.2.2.1
theorem Rel.acb {I J : Mem} {L : Nat → Nat → Int32 → Int32} {n m t : Nat} {ac mcs : Nat → Nat} (h : Rel I J L n m t ac mcs) : ∀ d, d < 6 → ac d ≤ 600 := h.2.2.2.1
theorem Rel.mb {I J : Mem} {L : Nat → Nat → Int32 → Int32} {n m t : Nat} {ac mcs : Nat → Nat} (h : Rel I J L n m t ac mcs) : m ≤ 600 := h.2.2.2.2.1
theorem Rel.tb {I J : Mem} {L : Nat → Nat → Int32 → Int32} {n m t : Nat} {ac mcs : Nat → Nat} (h : Rel I J L n m t ac mcs) : t ≤ 20000 := h.2.2.2.2.2
/-! small ints -/
theorem i_zero : (0 : Int32).toInt = 0 := by decide
theorem i_one : (1 : Int32).toInt = 1 := by decide
theorem i_mone : (-1 : Int32).toInt = -1 := by decide
theorem i_suc {a : Int32} (h0 : -1 ≤ a.toInt) (h1 : a.toInt < 2 ^ 31 - 1) : (a + 1).toInt = a.toInt + 1 := by
  rw [Int32.toInt_add, i_one]
  exact Int.bmod_eq_of_le (by omega) (by omega)
theorem i_nI {n : Nat} (h : n < 2 ^ 31) : (nI n).toInt = n := nI_toInt h
theorem i_ext {a b : Int32} (h : a.toInt = b.toInt) : a = b := Int32.toInt_inj.mp h
theorem i_imax (a b : Int32) : (imax a b).toInt = max a.toInt b.toInt := by
  unfold imax
  by_cases q : a < b
  · rw [if_pos q]; rw [Int32.lt_iff_toInt_lt] at q; omega
  · rw [if_neg q]; rw [Int32.lt_iff_toInt_lt] at q; omega
theorem nz_pos {a : Int32} (h : 0 ≤ a.toInt) : nz a = decide (0 < a) := by
  unfold nz
  by_cases q : a = 0
  · subst q; rfl
  · rw [if_neg q]
    refine (decide_eq_true ?_).symm
    rw [Int32.lt_iff_toInt_lt, i_zero]
    have : a.toInt ≠ 0 := fun z => q (i_ext (z.trans i_zero.symm))
    omega
theorem dec_le (a b : Int32) : decide (a ≤ b) = !decide (b < a) := by
  by_cases q : b < a
  · rw [decide_eq_true q, decide_eq_false (Int32.not_le.mpr q)]; rfl
  · rw [decide_eq_false q, decide_eq_true (Int32.not_lt.mp q)]; rfl
theorem mo_one {J : Mem} {e k : Nat} (h : mo J e k = true) : J (40, 0, 0, 0) k = nI e := of_decide_eq_true h
/-! what both answer -/
theorem cmp_any {p q r : Nat → Bool} : ∀ {m : Nat}, (∀ k, k < m → p k = true → q k = r (cntN p k)) → anyB (fun k => p k && q k) m = anyB r (cntN p m)
  | 0, _ => rfl
  | m + 1, h => by
    rw [anyB, cmp_any (fun k hk => h k (Nat.lt_succ_of_lt hk))]
    cases hp : p m with
    | false => rw [cntN_n hp, Bool.false_and, Bool.or_false]
    | true => rw [cntN_y hp, anyB, Bool.true_and, h m (Nat.lt_succ_self m) hp]
theorem cmp_cnt {p q r : Nat → Bool} : ∀ {m : Nat}, (∀ k, k < m → p k = true → q k = r (cntN p k)) → cntN (fun k => p k && q k) m = cntN r (cntN p m)
  | 0, _ => rfl
  | m + 1, h => by
    rw [cntN, cmp_cnt (fun k hk => h k (Nat.lt_succ_of_lt hk))]
    cases hp : p m with
    | false => rw [cntN_n hp, Bool.false_and]; rfl
    | true => rw [cntN_y hp, cntN, Bool.true_and, h m (Nat.lt_succ_self m) hp]
theorem cnt_lt {p : Nat → Bool} {k : Nat} : ∀ {m : Nat}, k < m → p k = true → cntN p k < cntN p m
  | m + 1, h, hp => by
    by_cases q : k = m
    · subst q; rw [cntN_y hp]; exact Nat.lt_succ_self _
    · have := cnt_lt (p := p) (m := m) (by omega) hp
      rw [cntN]
      omega
theorem cvA_sum (A : Nat → Int32) : cvA A = cvF A 0 + cvF A 1 + cvF A 2 + cvF A 3 := by
  have h1 := cntN_add (fun c => nz (A c)) 6 6
  have h2 := cntN_add (fun c => nz (A c)) 12 6
  have h3 := cntN_add (fun c => nz (A c)) 18 6
  unfold cvA cvF
  simp only [Nat.zero_mul, Nat.zero_add, Nat.one_mul]
  exact h3.trans (congrArg (· + _) (h2.trans (congrArg (· + _) h1)))
theorem bit15 : ∀ f, f < 4 → bit (nI 15) f = true := by decide +kernel
theorem bit_and : ∀ a, a < 16 → ∀ b, b < 16 → ∀ f, f < 4 → bit (nI a &&& nI b) f = (bit (nI a) f && bit (nI b) f) := by decide +kernel
theorem and_z : ∀ a, a < 16 → ∀ b, b < 16 → (nI a &&& nI b = 0 ↔ anyB (fun f => bit (nI a) f && bit (nI b) f) 4 = false) := by decide +kernel
theorem bc_and : ∀ a, a < 16 → ∀ b, b < 16 → bcI (nI a &&& nI b) = nI (cntN (fun f => bit (nI a) f && bit (nI b) f) 4) := by decide +kernel
section OBS
variable {I J : Mem} {L : Nat → Nat → Int32 → Int32} {n m t : Nat} {ac mcs : Nat → Nat} {e d o : Nat}
theorem rl_cnF (h : Cp I J L ac e d) {f : Nat} (hf : f < 4) : cvF (I (10, 0, e, d)) f = cnF J d e f := by
  refine cntN_congr (fun k hk => ?_)
  have hc : f * 6 + k < 24 := by omega
  show nz (I (10, 0, e, d) (f * 6 + k)) = _
  rw [nz_pos (h.av _ hc).1, h.ac_ _ hc, show cl d e (f * 6 + k) = 24 * (10 * d + e) + 6 * f + k by unfold cl; omega]
theorem rl_cnA (h : Cp I J L ac e d) : cvA (I (10, 0, e, d)) = cnA J d e 4 := by
  rw [cvA_sum, rl_cnF h (by decide), rl_cnF h (by decide), rl_cnF h (by decide), rl_cnF h (by decide)]
  simp only [cnA]
  omega
theorem rl_kno {a b : Int32} {t : Nat} (h : a + 1 = b) (h0 : -1 ≤ a.toInt ∧ a.toInt ≤ t) (ht : t ≤ 20000) : kno a = decide (0 < b) := by
  subst h
  have e := i_suc h0.1 (by omega)
  unfold kno
  by_cases q : a = -1
  · subst q; rfl
  · rw [if_neg q]
    refine (decide_eq_true ?_).symm
    rw [Int32.lt_iff_toInt_lt, i_zero, e]
    have : a.toInt ≠ -1 := fun z => q (i_ext (z.trans i_mone.symm))
    omega
theorem rl_kmk (h : Mk I J m t mcs) (ht : t ≤ 20000) (he : e < 10) (hd : d < 6) {k : Nat} (hk : k < m) (hm : mo J e k = true) : kno (I (19, 0, e, cntN (mo J e) k) d) = kmk J d k :=
  rl_kno (h.si e k he hk hm d hd) (h.sv e _ he (by rw [h.ct e he]; exact cnt_lt hk hm) d hd) ht
theorem rl_cov (hc : Cp I J L ac e d) (h : Mk I J m t mcs) (he : e < 10) {k : Nat} (hk : k < m) (hm : mo J e k = true) : cov (I (10, 0, e, d)) (I (18, 0, e, cntN (mo J e) k)) = cvm J k d e := by
  refine allB_congr (fun c hcc => ?_)
  rw [dec_le, hc.ac_ c hcc, h.cp e k he hk hm c hcc]
  rfl
theorem rl_cvt (hc : Cp I J L ac e d) (h : Mk I J m t mcs) (ht : t ≤ 20000) (he : e < 10) (hd : d < 6) : cvd I 0 e d (mcs e) = cvt J d e m := by
  rw [h.ct e he]
  refine (cmp_any (p := mo J e) (q := fun k => kmk J d k && cvm J k d e) (fun k hk hm => ?_)).symm
  show (kmk J d k && cvm J k d e) = mcv I 0 e d (cntN (mo J e) k)
  unfold mcv
  rw [rl_kmk h ht he hd hk hm, rl_cov hc h he hk hm]
theorem rl_agN (h : Mk I J m t mcs) (ht : t ≤ 20000) (he : e < 10) (hd : d < 6) : cmk I 0 e d (mcs e) = agN J d e m := by
  rw [h.ct e he]
  exact (cmp_cnt (p := mo J e) (q := fun k => kmk J d k) (fun k hk hm => (rl_kmk h ht he hd hk hm).symm)).symm
theorem rl_sto (hR : Rel I J L n m t ac mcs) (he : e < 10) (hd : d < 6) : sto I 0 e d (mcs e) = mstR J d e m := by
  have hc := hR.cp e d he hd
  unfold sto mstR thr
  rw [hc.kn, rl_cvt hc hR.mk hR.tb he hd, rl_cnA hc]
  by_cases h0 : J (34, 0, 0, 0) (10 * d + e) = 0
  · rw [if_pos h0, if_pos h0]
  · rw [if_neg h0, if_neg h0, if_neg h0]
    cases cvt J d e m with
    | true => simp
    | false =>
      by_cases h1 : cnA J d e 4 = 0
      · simp [h1]
      · have h2 : 0 < cnA J d e 4 := by omega
        simp [h1, h2]
theorem rl_thr (hR : Rel I J L n m t ac mcs) (he : e < 10) (hd : d < 6) : thr J d e m = decide (sto I 0 e d (mcs e) = 1) := by
  rw [rl_sto hR he hd]
  unfold mstR thr
  by_cases h0 : J (34, 0, 0, 0) (10 * d + e) = 0
  · rw [if_pos h0, if_pos h0]; rfl
  · rw [if_neg h0, if_neg h0]
    cases cvt J d e m with
    | true => simp
    | false =>
      by_cases h1 : 0 < cnA J d e 4
      · simp [h1]
      · simp [h1]
theorem rl_ff (h : Gl I J n m t ac) (he : e < 10) (hd : d < 6) {f : Nat} (hf : f < 4) : bit (ff I 0 e d) f = mayB J d e f := by
  unfold ff mayB
  rw [h.ow e he, h.sh e (d / 2) he (by omega)]
  by_cases q : J (32, 0, 0, 0) e = nI (d / 2)
  · rw [if_pos q.symm, if_pos q, bit15 f hf]
  · rw [if_neg (fun z => q z.symm), if_neg q]
theorem rl_fv (h : Gl I J n m t ac) (he : e < 10) (hd : d < 6) : ∃ x, x < 16 ∧ ff I 0 e d = nI x := by
  unfold ff
  by_cases q : nI (d / 2) = I (4, 0, e, 0) 0
  · rw [if_pos q]; exact ⟨15, by decide, rfl⟩
  · rw [if_neg q]; exact h.sv e (d / 2) he (by omega)
theorem rl_ffb (h : Gl I J n m t ac) (he : e < 10) (hd : d < 6) (ho : o < 6) {f : Nat} (hf : f < 4) : bit (ff I 0 e d &&& ff I 0 e o) f = shP J d o e f := by
  unfold shP
  rw [← rl_ff h he hd hf, ← rl_ff h he ho hf]
  obtain ⟨a, ha, e1⟩ := rl_fv h he hd
  obtain ⟨b, hb, e2⟩ := rl_fv h he ho
  rw [e1, e2]
  exact bit_and a ha b hb f hf
theorem rl_ffz (h : Gl I J n m t ac) (he : e < 10) (hd : d < 6) (ho : o < 6) : (ff I 0 e d &&& ff I 0 e o = 0) ↔ shB J d o e = false := by
  have q : shB J d o e = anyB (fun f => bit (ff I 0 e d) f && bit (ff I 0 e o) f) 4 := anyB_congr (fun f hf => by
    rw [rl_ff h he hd hf, rl_ff h he ho hf]; rfl)
  rw [q]
  obtain ⟨a, ha, e1⟩ := rl_fv h he hd
  obtain ⟨b, hb, e2⟩ := rl_fv h he ho
  rw [e1, e2]
  exact and_z a ha b hb
theorem rl_ffc (h : Gl I J n m t ac) (he : e < 10) (hd : d < 6) (ho : o < 6) : bcI (ff I 0 e d &&& ff I 0 e o) = nI (cntN (shP J d o e) 4) := by
  have q : cntN (shP J d o e) 4 = cntN (fun f => bit (ff I 0 e d) f && bit (ff I 0 e o) f) 4 := cntN_congr (fun f hf => by
    rw [rl_ff h he hd hf, rl_ff h he ho hf]; rfl)
  rw [q]
  obtain ⟨a, ha, e1⟩ := rl_fv h he hd
  obtain ⟨b, hb, e2⟩ := rl_fv h he ho
  rw [e1, e2]
  exact bc_and a ha b hb
theorem rl_same (h1 : Cp I J L ac e d) (h2 : Cp I J L ac e o) {f : Nat} (hf : f < 4) : sameV (I (10, 0, e, d)) (I (10, 0, e, o)) f = samB J d o e f := by
  refine allB_congr (fun k hk => ?_)
  have hc : f * 6 + k < 24 := by omega
  show decide (I (10, 0, e, d) (f * 6 + k) = I (10, 0, e, o) (f * 6 + k)) = _
  rw [h1.ac_ _ hc, h2.ac_ _ hc, show cl d e (f * 6 + k) = 24 * (10 * d + e) + 6 * f + k by unfold cl; omega, show cl o e (f * 6 + k) = 24 * (10 * o + e) + 6 * f + k by unfold cl; omega]
  rfl
/-- clashes -/
theorem rl_cle (hR : Rel I J L n m t ac mcs) (he : e < 10) (hd : d < 6) : ∀ f, f ≤ 4 → mclE J d e m f = if sto I 0 e d (mcs e) = 1 then cntN (fun f => decide (1 < cvF (I (10, 0, e, d)) f)) f else 0
  | 0, _ => by simp [mclE, cntN]
  | f + 1, hf => by
    rw [mclE, rl_cle hR he hd f (by omega), rl_thr hR he hd]
    by_cases q : sto I 0 e d (mcs e) = 1
    · simp only [if_pos q, decide_eq_true q, Bool.true_and, cntN, rl_cnF (hR.cp e d he hd) (show f < 4 by omega)]
    · simp [q]
theorem rl_cln (hR : Rel I J L n m t ac mcs) (hd : d < 6) : ∀ k, k ≤ 10 → bclN I 0 d mcs k = mclN J d m k
  | 0, _ => rfl
  | k + 1, hk => by
    rw [bclN, mclN, rl_cln hR hd k (by omega), rl_cle hR (by omega) hd 4 (Nat.le_refl 4)]
    rfl
/-- agreement -/
theorem rl_mag (hR : Rel I J L n m t ac mcs) (he : e < 10) (hd : d < 6) (ho : o < 6) : ∀ f, magE J d o e m f = if sto I 0 e d (mcs e) = 1 ∨ sto I 0 e o (mcs e) = 1 then cntN (shP J d o e) f else 0
  | 0 => by simp [magE, cntN]
  | f + 1 => by
    rw [magE, rl_mag hR he hd ho f]
    unfold magP
    rw [rl_thr hR he hd, rl_thr hR he ho, cntN]
    by_cases q1 : sto I 0 e d (mcs e) = 1 <;> by_cases q2 : sto I 0 e o (mcs e) = 1 <;> simp [q1, q2, shP]
theorem rl_bcm (hR : Rel I J L n m t ac mcs) (hd : d < 6) (ho : o < 6) : ∀ k, k ≤ 10 → bcmI I 0 d o mcs k = nI (magA J d o m k)
  | 0, _ => rfl
  | k + 1, hk => by
    rw [bcmI, magA, rl_bcm hR hd ho k (by omega), ← nI_add, rl_mag hR (by omega) hd ho]
    congr 1
    unfold cmpF
    by_cases q1 : sto I 0 k d (mcs k) = 1
    · rw [if_pos q1, if_pos (Or.inl q1), rl_ffc hR.gl (by omega) hd ho]
    · by_cases q2 : sto I 0 k o (mcs k) = 1
      · rw [if_neg q1, if_pos q2, if_pos (Or.inr q2), rl_ffc hR.gl (by omega) hd ho]
      · rw [if_neg q1, if_neg q2, if_neg (fun z => z.elim q1 q2)]
        decide +kernel
theorem rl_mas (hR : Rel I J L n m t ac mcs) (he : e < 10) (hd : d < 6) (ho : o < 6) : ∀ f, f ≤ 4 → masE J d o e m f = cntN (fun f => bit (cmpF I 0 e d o (mcs e)) f && sameV (I (10, 0, e, d)) (I (10, 0, e, o)) f) f
  | 0, _ => rfl
  | f + 1, hf => by
    have hf4 : f < 4 := by omega
    have hb0 : ∀ f, f < 4 → bit (nI 0) f = false := by decide +kernel
    rw [masE, cntN, rl_mas hR he hd ho f (by omega), rl_same (hR.cp e d he hd) (hR.cp e o he ho) hf4]
    congr 2
    unfold magP cmpF
    rw [rl_thr hR he hd, rl_thr hR he ho]
    by_cases q1 : sto I 0 e d (mcs e) = 1
    · rw [if_pos q1, rl_ffb hR.gl he hd ho hf4]; simp [q1, shP]
    · by_cases q2 : sto I 0 e o (mcs e) = 1
      · rw [if_neg q1, if_pos q2, rl_ffb hR.gl he hd ho hf4]; simp [q1, q2, shP]
      · rw [if_neg q1, if_neg q2, hb0 f hf4]; simp [q1, q2]
theorem rl_bsm (hR : Rel I J L n m t ac mcs) (hd : d < 6) (ho : o < 6) : ∀ k, k ≤ 10 → bsmN I 0 d o mcs k = masA J d o m k
  | 0, _ => rfl
  | k + 1, hk => by
    rw [bsmN, masA, rl_bsm hR hd ho k (by omega), rl_mas hR (by omega) hd ho 4 (Nat.le_refl 4)]
    rfl
/-- the newest mark -/
theorem rl_nwm_le (I : Mem) {t : Nat} : ∀ j, (∀ i, i < j → -1 ≤ (I (19, 0, e, i) d).toInt ∧ (I (19, 0, e, i) d).toInt ≤ t) → -1 ≤ (nwm I 0 e d j).toInt ∧ (nwm I 0 e d j).toInt ≤ t
  | 0, _ => by rw [nwm, i_mone]; omega
  | j + 1, h => by
    have h1 := rl_nwm_le I j (fun i hi => h i (Nat.lt_succ_of_lt hi))
    have h2 := h j (Nat.lt_succ_self j)
    rw [nwm, i_imax]
    omega
theorem rl_las (h : Mk I J m t mcs) (ht : t ≤ 20000) (he : e < 10) (hd : d < 6) : ∀ k, k ≤ m → lasI J d e k = nwm I 0 e d (cntN (mo J e) k) + 1
  | 0, _ => by rw [lasI, cntN, nwm]; decide
  | k + 1, hk => by
    have ih := rl_las h ht he hd k (by omega)
    rw [lasI]
    cases hm : mo J e k with
    | false => rw [cntN_n hm, Bool.false_and, if_neg (by decide), ih]
    | true =>
      have hj : cntN (mo J e) k < mcs e := by rw [h.ct e he]; exact cnt_lt (by omega) hm
      have hs := h.sv e _ he hj d hd
      have hi := h.si e k he (by omega) hm d hd
      have hw := rl_nwm_le (e := e) (d := d) I (cntN (mo J e) k) (fun i hi => h.sv e i he (by omega) d hd)
      have hq := rl_kmk h ht he hd (show k < m by omega) hm
      rw [cntN_y hm, Bool.true_and, nwm, ih, ← hi, ← hq]
      have e1 := i_suc hw.1 (by omega)
      have e2 := i_suc hs.1 (by omega)
      have e3 : -1 ≤ (imax (nwm I 0 e d (cntN (mo J e) k)) (I (19, 0, e, cntN (mo J e) k) d)).toInt := by rw [i_imax]; omega
      have e4 : (imax (nwm I 0 e d (cntN (mo J e) k)) (I (19, 0, e, cntN (mo J e) k) d)).toInt < 2 ^ 31 - 1 := by rw [i_imax]; omega
      apply i_ext
      rw [i_suc e3 e4, i_imax]
      cases hkn : kno (I (19, 0, e, cntN (mo J e) k) d) with
      | true => rw [if_pos rfl, i_imax, e1, e2]; omega
      | false =>
        have : I (19, 0, e, cntN (mo J e) k) d = -1 := by
          unfold kno at hkn
          by_cases q : I (19, 0, e, cntN (mo J e) k) d = -1
          · exact q
          · rw [if_neg q] at hkn; cases hkn
        rw [if_neg (by decide), e1, this, i_mone]
        omega
/-- the marks' answer -/
theorem rl_mrk (hR : Rel I J L n m t ac mcs) (he : e < 10) (hd : d < 6) : mrkR I e d (mcs e) = mmkR J d e m := by
  unfold mrkR mmkR
  have hk := hR.mk
  have ht := hR.tb
  rw [rl_agN hk ht he hd]
  by_cases h0 : agN J d e m = 0
  · rw [if_pos h0, if_pos h0]
  · rw [if_neg h0, if_neg h0]
    have hw := rl_nwm_le (e := e) (d := d) I (mcs e) (fun i hi => hk.sv e i he hi d hd)
    have hl := rl_las hk ht he hd m (Nat.le_refl m)
    rw [← hk.ct e he] at hl
    have e1 := i_suc hw.1 (by omega)
    have et : (nI t).toInt = t := i_nI (by omega)
    have et1 : (nI t + nI 1).toInt = t + 1 := by rw [nI_one, i_suc (by omega) (by omega), et]
    have e99 : (nI 99).toInt = 99 := by decide
    have ea : (nI t - nwm I 0 e d (mcs e)).toInt = t - (nwm I 0 e d (mcs e)).toInt := by
      rw [Int32.toInt_sub, et]
      exact Int.bmod_eq_of_le (by omega) (by omega)
    have eb : (nI t + nI 1 - (nwm I 0 e d (mcs e) + 1)).toInt = t - (nwm I 0 e d (mcs e)).toInt := by
      rw [Int32.toInt_sub, et1, e1, Int.bmod_eq_of_le (by omega) (by omega)]
      omega
    have eab : nI t + nI 1 - (nwm I 0 e d (mcs e) + 1) = nI t - nwm I 0 e d (mcs e) := i_ext (eb.trans ea.symm)
    rw [hR.gl.tI, hR.gl.tJ, hl, eab]
    by_cases q : nI t - nwm I 0 e d (mcs e) < nI 99
    · rw [if_pos q, if_pos (Int32.le_of_lt q)]
    · rw [if_neg q]
      by_cases q2 : nI t - nwm I 0 e d (mcs e) ≤ nI 99
      · rw [if_pos q2]
        have : nI t - nwm I 0 e d (mcs e) = nI 99 := i_ext (by
          rw [Int32.le_iff_toInt_le] at q2
          rw [Int32.lt_iff_toInt_lt] at q
          omega)
        rw [this]
      · rw [if_neg q2, nI_add]
/-- a value told -/
theorem rl_val (h : Cp I J L ac e d) {f : Nat} (hf : f < 4) : ∀ r k left, k + r = 6 → left < cntN (fun i => nz (I (10, 0, e, d) (f * 6 + (k + i)))) r → vFrom (I (10, 0, e, d)) (I (11, 0, e, d)) f r k left = J (36, 0, 0, 0) (24 * (10 * d + e) + 6 * f + tel J d e f r k left)
  | 0, k, left, _, hl => absurd hl (Nat.not_lt_zero _)
  | r + 1, k, left, hk, hl => by
    have hc : f * 6 + k < 24 := by omega
    have ep : cl d e (f * 6 + k) = 24 * (10 * d + e) + 6 * f + k := by unfold cl; omega
    have hn := nz_pos (h.av _ hc).1
    have hl2 : cntN (fun i => nz (I (10, 0, e, d) (f * 6 + (k + i)))) (r + 1) = (if nz (I (10, 0, e, d) (f * 6 + k)) then 1 else 0) + cntN (fun i => nz (I (10, 0, e, d) (f * 6 + (k + 1 + i)))) r := by
      have q := cntN_add (fun i => nz (I (10, 0, e, d) (f * 6 + (k + i)))) 1 r
      rw [Nat.add_comm 1 r] at q
      rw [q]
      congr 1
      · show 0 + _ = _
        rw [Nat.zero_add]
        rfl
      · exact cntN_congr (fun i _ => by rw [show k + (1 + i) = k + 1 + i by omega])
    rw [hl2] at hl
    rw [vFrom, tel, ← ep, ← h.ac_ _ hc]
    cases hz : nz (I (10, 0, e, d) (f * 6 + k)) with
    | true =>
      rw [hz] at hn hl
      have hp : 0 < I (10, 0, e, d) (f * 6 + k) := of_decide_eq_true hn.symm
      have hne : I (10, 0, e, d) (f * 6 + k) ≠ 0 := nz_t hz
      rw [if_pos rfl, if_pos hp]
      by_cases q : left = 0
      · rw [if_pos q, if_pos q, h.to _ hc hne, ← h.va _ hc hne, ep]
      · rw [if_neg q, if_neg q]
        exact rl_val h hf r (k + 1) (left - 1) (by omega) (by rw [if_pos rfl] at hl; omega)
    | false =>
      rw [hz] at hn hl
      have hp : ¬ 0 < I (10, 0, e, d) (f * 6 + k) := of_decide_eq_false hn.symm
      rw [if_neg (by decide), if_neg hp]
      exact rl_val h hf r (k + 1) left (by omega) (by rw [if_neg (by decide)] at hl; omega)
end OBS

