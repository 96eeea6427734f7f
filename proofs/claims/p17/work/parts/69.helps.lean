/-! what the reference's acts leave: the out rows, what was thrown -/
theorem th_4 {I : Mem} {w : Nat} : thM I w (30, 0, 0, 0) 4 = nI w := by
  unfold thM
  rw [sset_eq, ud_eq]
theorem mEnt_hi {J : Mem} {d n : Nat} {k : KN} (h : 43 ≤ k.1) : mEntM J d n k = J k := by
  unfold mEntM
  rw [sset_ne _ _ (fun q => by rw [q] at h; exact absurd h (by decide)), sset_ne _ _ (fun q => by rw [q] at h; exact absurd h (by decide)), sset_ne _ _ (fun q => by rw [q] at h; exact absurd h (by decide)), th_see (by omega)]
theorem mfor_hi {J : Mem} {d e m : Nat} {k : KN} (h : 43 ≤ k.1) : mforM J d e m k = J k := mfor_see (by omega) (by omega) (by omega) (by omega) (by omega) (by omega)
theorem joi_hi {J : Mem} {d o e m : Nat} {k : KN} (h : 43 ≤ k.1) : joiM J d o e m k = J k := by
  unfold joiM
  rw [jl_see (by omega), jn_see (by omega) (by omega) (by omega) (by omega), kbo_see (by omega)]
theorem mmS_hi {J : Mem} {d o e m : Nat} {k : KN} (h : 43 ≤ k.1) : mmS J d o e m k = J k := by
  have h1 : mm1 J d o e m k = J k := by
    unfold mm1
    split <;> (try split) <;> (try split) <;> first | rfl | exact joi_hi h | exact mfor_hi h
  unfold mmS
  split
  · unfold mm2
    split
    · split
      · rw [not_see (by omega) (by omega), h1]
      · exact h1
    · exact h1
  · rfl
theorem mm_hi {J : Mem} {d o m : Nat} {k : KN} (h : 43 ≤ k.1) : ∀ i, mmM J d o m i k = J k
  | 0 => by rw [mmM, sset_ne _ _ (fun q => by rw [q] at h; exact absurd h (by decide)), th_see (by omega)]
  | i + 1 => by rw [mmM, mmS_hi h, mm_hi h i]
theorem mpE_hi {J : Mem} {d m : Nat} {k : KN} (h : 43 ≤ k.1) : ∀ i, mpE J d m i k = J k
  | 0 => rfl
  | i + 1 => by
    rw [mpE]
    split
    · rw [mfor_hi h, mpE_hi h i]
    · exact mpE_hi h i
theorem mpD_hi {J : Mem} {x : Int32} {n m : Nat} {k : KN} (h : 43 ≤ k.1) : ∀ i, mpD J x n m i k = J k
  | 0 => by rw [mpD, sset_ne _ _ (fun q => by rw [q] at h; exact absurd h (by decide)), th_see (by omega)]
  | i + 1 => by rw [mpD, mpE_hi h, mpD_hi h i]
theorem mtl_hi {J : Mem} {d e f : Nat} {w : Int32} {k : KN} (h : 43 ≤ k.1) : mtlM J d e f w k = J k := mtl_see (by omega) (by omega) (by omega) (by omega) (by omega)
theorem mdl_hi {J : Mem} {d e m : Nat} {k : KN} (h : 43 ≤ k.1) : mdlM J d e m k = J k := mdl_see (by omega) (by omega) (by omega) (by omega) (by omega)
theorem msh_hi {J : Mem} {e q : Nat} {F : Int32} {k : KN} (h : 43 ≤ k.1) : mshM J e q F k = J k := msh_see (by omega) (by omega) (by omega) (by omega)
theorem mEnt_4 {J : Mem} {d n : Nat} : mEntM J d n (30, 0, 0, 0) 4 = nI 0 := by
  unfold mEntM
  rw [sset_eq, ud_ne _ _ (by decide), th_4]
theorem mt1_4 {J : Mem} {d e f : Nat} : mt1 J d e f (30, 0, 0, 0) 4 = nI 0 := by
  unfold mt1
  rw [sset_ne _ _ (nek (by decide)), sset_ne _ _ (nek (by decide)), sset_ne _ _ (nek (by decide)), th_4]
theorem mtl_4 {J : Mem} {d e f : Nat} {w : Int32} : mtlM J d e f w (30, 0, 0, 0) 4 = nI 0 := by
  unfold mtlM
  split
  · exact mt1_4
  · rw [sset_ne _ _ (nek (by decide)), sset_ne _ _ (nek (by decide)), mt1_4]
theorem mdl_4 {J : Mem} {d e m : Nat} : mdlM J d e m (30, 0, 0, 0) 4 = nI 0 := by
  unfold mdlM
  rw [sset_eq, ud_ne _ _ (by decide), th_4]
theorem msh_4 {J : Mem} {e q : Nat} {F : Int32} : mshM J e q F (30, 0, 0, 0) 4 = nI 0 := by
  unfold mshM
  rw [sset_ne _ _ (nek (by decide)), sset_ne _ _ (nek (by decide)), sset_ne _ _ (nek (by decide)), th_4]
theorem mm_4 {J : Mem} {d o m : Nat} : ∀ i, mmM J d o m i (30, 0, 0, 0) 4 = nI 0
  | 0 => by rw [mmM, sset_eq, ud_ne _ _ (by decide), th_4]
  | i + 1 => by rw [mmM, mmS_30 (by decide), mm_4 i]
theorem mpD_4 {J : Mem} {x : Int32} {n m : Nat} : ∀ i, mpD J x n m i (30, 0, 0, 0) 4 = nI 0
  | 0 => by rw [mpD, sset_eq, ud_ne _ _ (by decide), th_4]
  | i + 1 => by rw [mpD, mpE_30, mpD_4 i]
/-! arguments: in or out -/
theorem dev_split (x : Int32) : isDev x = false ∨ ∃ d, d < 6 ∧ x = nI d := by
  cases h : isDev x with
  | false => exact Or.inl rfl
  | true => exact Or.inr (isDev_of h)
theorem per_split (x : Int32) : isPer x = false ∨ ∃ d, d < 3 ∧ x = nI d := by
  cases h : isPer x with
  | false => exact Or.inl rfl
  | true => exact Or.inr (isPer_of h)
theorem fld_split (x : Int32) : isFld x = false ∨ ∃ d, d < 4 ∧ x = nI d := by
  cases h : isFld x with
  | false => exact Or.inl rfl
  | true => exact Or.inr (isFld_of h)
theorem ent_split {n : Nat} (hn10 : n ≤ 10) (x : Int32) : isEnt n x = false ∨ ∃ e, e < n ∧ x = nI e := by
  cases h : isEnt n x with
  | false => exact Or.inl rfl
  | true => exact Or.inr (isEnt_of hn10 h)
theorem ck_split {I : Mem} {n : Nat} (hn10 : n ≤ 10) (x y : Int32) : ckn I 0 n x y = false ∨ ∃ d e, d < 6 ∧ e < n ∧ x = nI d ∧ y = nI e ∧ nz (I (9, 0, e, d) 0) = true := by
  cases h : ckn I 0 n x y with
  | false => exact Or.inl rfl
  | true =>
    rcases dev_split x with h0 | ⟨d, hd, rfl⟩
    · unfold ckn at h; rw [h0] at h; cases h
    · rcases ent_split hn10 y with h0 | ⟨e, he, rfl⟩
      · unfold ckn at h; rw [h0, Bool.false_and, Bool.and_false] at h; cases h
      · rw [ckn_nI hn10 hd he] at h
        exact Or.inr ⟨d, e, hd, he, rfl, rfl, h⟩
theorem inR_of {x : Int32} {a b : Nat} (hb : b < 1000) (h : inR x (nI a) (nI b) = true) (ha : a < 1000) : ∃ j : Nat, a ≤ j ∧ j ≤ b ∧ x = nI j := by
  unfold inR at h
  by_cases h0 : x < nI a
  · simp [h0] at h
  · by_cases h1 : nI b < x
    · simp [h0, h1] at h
    · have g0 := Int.not_lt.mp (fun q => h0 (Int32.lt_iff_toInt_lt.mpr q))
      have g1 := Int.not_lt.mp (fun q => h1 (Int32.lt_iff_toInt_lt.mpr q))
      rw [i_nI (by omega)] at g0 g1
      refine ⟨x.toInt.toNat, by omega, by omega, ?_⟩
      exact i_ext (by rw [i_nI (by omega)]; omega)
theorem inR_neg {w : Int32} (h : inR w (-1) (nI 999) = true) : w = -1 ↔ w < 0 := by
  unfold inR at h
  by_cases h0 : w < -1
  · simp [h0] at h
  · have g0 := Int.not_lt.mp (fun q => h0 (Int32.lt_iff_toInt_lt.mpr q))
    rw [i_mone] at g0
    constructor
    · intro q; subst q; decide
    · intro q
      have q := Int32.lt_iff_toInt_lt.mp q
      rw [i_zero] at q
      exact i_ext (by rw [i_mone]; omega)
theorem rl_ckn {I J : Mem} {L : Nat → Nat → Int32 → Int32} {n m t : Nat} {ac mcs : Nat → Nat} (R : Rel I J L n m t ac mcs) (x y : Int32) : knwB J n x y = ckn I 0 n x y := by
  rcases dev_split x with h0 | ⟨d, hd, rfl⟩
  · unfold knwB ckn; rw [h0]; rfl
  · rcases ent_split R.gl.n10 y with h0 | ⟨e, he, rfl⟩
    · unfold knwB ckn; rw [h0]; rfl
    · rw [ckn_nI R.gl.n10 hd he, knwB_nI R.gl.n10 hd he, (R.cp e d (Nat.lt_of_lt_of_le he R.gl.n10) hd).kn]
theorem rel_30 {I X : Mem} {L : Nat → Nat → Int32 → Int32} {n m t : Nat} {ac mcs : Nat → Nat} (R : Rel I I L n m t ac mcs) (hX : ∀ k, 30 ≤ k → k ≤ 42 → X (k, 0, 0, 0) = I (k, 0, 0, 0)) : Rel I X L n m t ac mcs :=
  rel_congr R (fun _ _ _ _ => rfl) (fun j _ => by rw [hX 30 (by decide) (by decide)]) (fun k h1 h2 => hX k (by omega) h2)
theorem rel_0 {I X : Mem} {L : Nat → Nat → Int32 → Int32} {n m t : Nat} {ac mcs : Nat → Nat} (R : Rel I X L n m t ac mcs) : Rel I (thM X 0) L n m t ac mcs :=
  rel_congr R (fun _ _ _ _ => rfl) (fun j hj => th_30 (by omega)) (fun k h1 _ => th_see (by show k ≠ 30; omega))
/-! marks made -/
theorem sum_le {f g : Nat → Nat} : ∀ {k : Nat}, (∀ j, j < k → f j ≤ g j) → sumN f k ≤ sumN g k
  | 0, _ => Nat.le_refl _
  | k + 1, h => by
    have h1 := sum_le (k := k) (fun j hj => h j (by omega))
    have h2 := h k (Nat.lt_succ_self k)
    rw [sumN, sumN]
    omega
theorem sum_up {f g : Nat → Nat} {e : Nat} (he : f e + 1 ≤ g e) : ∀ {k : Nat}, e < k → (∀ j, j < k → f j ≤ g j) → sumN f k + 1 ≤ sumN g k
  | k + 1, h0, h => by
    rw [sumN, sumN]
    by_cases q : e = k
    · subst q
      have h1 := sum_le (k := e) (fun j hj => h j (by omega))
      omega
    · have h1 := sum_up he (k := k) (by omega) (fun j hj => h j (by omega))
      have h2 := h k (Nat.lt_succ_self k)
      omega
theorem sum_need {g m g2 : Nat → Nat} : ∀ {k : Nat}, (∀ j, j < k → g2 j = max (g j) (m j)) → sumN g2 k = sumN g k + need g m k
  | 0, _ => rfl
  | k + 1, h => by
    have h1 := sum_need (k := k) (fun j hj => h j (by omega))
    have h2 := h k (Nat.lt_succ_self k)
    rw [sumN, sumN, need, h1, h2]
    omega
theorem need_le {g m : Nat → Nat} : ∀ k, need g m k ≤ sumN m k
  | 0 => Nat.le_refl _
  | k + 1 => by
    have := need_le (g := g) (m := m) k
    rw [need, sumN]
    omega
theorem li_SG {I : Mem} {gm : GM} {c : Nat} (h : LInv I gm c) : SG gm ≤ 2 * c := by
  obtain ⟨V, acts, z, L, n, m, t, ac, mcs, h1, h2, h3, h4, h5, h6, h7, h8, h9, h10, h11, h12⟩ := h
  have a := sum_le (f := fun e => (gm 0 e).1) (g := mcs) (k := 10) (fun j _ => Nat.le_of_eq (h6 j))
  have b := sum_le (f := fun e => (gm 1 e).1) (g := mcs) (k := 10) (fun j _ => h7 j)
  unfold SG
  omega
