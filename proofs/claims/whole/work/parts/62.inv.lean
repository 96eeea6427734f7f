/-! what holds between two calls -/
theorem mEnt_lo {J : Mem} {d n : Nat} {k : KN} (h : k.1 < 30) : mEntM J d n k = J k := by
  unfold mEntM
  rw [sset_ne _ _ (fun q => by rw [q] at h; exact absurd h (by decide)), sset_ne _ _ (fun q => by rw [q] at h; exact absurd h (by decide)), sset_ne _ _ (fun q => by rw [q] at h; exact absurd h (by decide)), th_see (by omega)]
theorem mfor_lo {J : Mem} {d e m : Nat} {k : KN} (h : k.1 < 30) : mforM J d e m k = J k := mfor_see (by omega) (by omega) (by omega) (by omega) (by omega) (by omega)
theorem joi_lo {J : Mem} {d o e m : Nat} {k : KN} (h : k.1 < 30) : joiM J d o e m k = J k := by
  unfold joiM
  rw [jl_see (by omega), jn_see (by omega) (by omega) (by omega) (by omega), kbo_see (by omega)]
theorem mmS_lo {J : Mem} {d o e m : Nat} {k : KN} (h : k.1 < 30) : mmS J d o e m k = J k := by
  have h1 : mm1 J d o e m k = J k := by
    unfold mm1
    split <;> (try split) <;> (try split) <;> first | rfl | exact joi_lo h | exact mfor_lo h
  unfold mmS
  split
  · unfold mm2
    split
    · split
      · rw [not_see (by omega) (by omega), h1]
      · exact h1
    · exact h1
  · rfl
theorem mm_lo {J : Mem} {d o m : Nat} {k : KN} (h : k.1 < 30) : ∀ i, mmM J d o m i k = J k
  | 0 => by rw [mmM, sset_ne _ _ (fun q => by rw [q] at h; exact absurd h (by decide)), th_see (by omega)]
  | i + 1 => by rw [mmM, mmS_lo h, mm_lo h i]
theorem mpE_lo {J : Mem} {d m : Nat} {k : KN} (h : k.1 < 30) : ∀ i, mpE J d m i k = J k
  | 0 => rfl
  | i + 1 => by
    rw [mpE]
    split
    · rw [mfor_lo h, mpE_lo h i]
    · exact mpE_lo h i
theorem mpD_lo {J : Mem} {x : Int32} {n m : Nat} {k : KN} (h : k.1 < 30) : ∀ i, mpD J x n m i k = J k
  | 0 => by rw [mpD, sset_ne _ _ (fun q => by rw [q] at h; exact absurd h (by decide)), th_see (by omega)]
  | i + 1 => by rw [mpD, mpE_lo h, mpD_lo h i]
theorem th_lo {J : Mem} {w : Nat} {k : KN} (h : k.1 < 30) : thM J w k = J k := th_see (by omega)
theorem mtl_lo {J : Mem} {d e f : Nat} {w : Int32} {k : KN} (h : k.1 < 30) : mtlM J d e f w k = J k := mtl_see (by omega) (by omega) (by omega) (by omega) (by omega)
theorem mdl_lo {J : Mem} {d e m : Nat} {k : KN} (h : k.1 < 30) : mdlM J d e m k = J k := mdl_see (by omega) (by omega) (by omega) (by omega) (by omega)
theorem msh_lo {J : Mem} {e q : Nat} {F : Int32} {k : KN} (h : k.1 < 30) : mshM J e q F k = J k := msh_see (by omega) (by omega) (by omega) (by omega)
def LI (I : Mem) (gm : GM) (V : Nat → BS) (acts : Nat → Act) (z : Nat) (L : Nat → Nat → Int32 → Int32) (n m t : Nat) (ac mcs : Nat → Nat) (c : Nat) : Prop :=
  Rel I I L n m t ac mcs ∧ JR I acts z ∧ Runs V acts z ∧ SB 0 0 mcs I I (V z).1 ∧ (V z).2 = (n, mcs) ∧ (∀ e, (gm 0 e).1 = mcs e) ∧ (∀ e, (gm 1 e).1 ≤ mcs e) ∧ z ≤ c ∧ m ≤ c ∧ t ≤ 24 * c ∧ (∀ d, ac d ≤ c) ∧ sumN mcs 10 ≤ c
def LInv (I : Mem) (gm : GM) (c : Nat) : Prop := ∃ V acts z L n m t ac mcs, LI I gm V acts z L n m t ac mcs c
theorem jw_JR {I : Mem} {acts : Nat → Act} {z : Nat} (h : JR I acts z) (a : Act) : JR (jwM I z (nI a.1) a.2.1 a.2.2.1 a.2.2.2.1 a.2.2.2.2) (fun j => if j < z then acts j else a) (z + 1) := by
  have r20 : jwM I z (nI a.1) a.2.1 a.2.2.1 a.2.2.2.1 a.2.2.2.2 (20, 0, 0, 0) = upd (I (20, 0, 0, 0)) 0 (nI (z + 1)) := sset_eq _ _ _
  have r25 : jwM I z (nI a.1) a.2.1 a.2.2.1 a.2.2.2.1 a.2.2.2.2 (25, 0, 0, 0) = upd (I (25, 0, 0, 0)) z a.2.2.2.2 := by
    unfold jwM
    rw [sset_ne _ _ (nek (by decide)), sset_eq]
  have r24 : jwM I z (nI a.1) a.2.1 a.2.2.1 a.2.2.2.1 a.2.2.2.2 (24, 0, 0, 0) = upd (I (24, 0, 0, 0)) z a.2.2.2.1 := by
    unfold jwM
    rw [sset_ne _ _ (nek (by decide)), sset_ne _ _ (nek (by decide)), sset_eq]
  have r23 : jwM I z (nI a.1) a.2.1 a.2.2.1 a.2.2.2.1 a.2.2.2.2 (23, 0, 0, 0) = upd (I (23, 0, 0, 0)) z a.2.2.1 := by
    unfold jwM
    rw [sset_ne _ _ (nek (by decide)), sset_ne _ _ (nek (by decide)), sset_ne _ _ (nek (by decide)), sset_eq]
  have r22 : jwM I z (nI a.1) a.2.1 a.2.2.1 a.2.2.2.1 a.2.2.2.2 (22, 0, 0, 0) = upd (I (22, 0, 0, 0)) z a.2.1 := by
    unfold jwM
    rw [sset_ne _ _ (nek (by decide)), sset_ne _ _ (nek (by decide)), sset_ne _ _ (nek (by decide)), sset_ne _ _ (nek (by decide)), sset_eq]
  have r21 : jwM I z (nI a.1) a.2.1 a.2.2.1 a.2.2.2.1 a.2.2.2.2 (21, 0, 0, 0) = upd (I (21, 0, 0, 0)) z (nI a.1) := by
    unfold jwM
    rw [sset_ne _ _ (nek (by decide)), sset_ne _ _ (nek (by decide)), sset_ne _ _ (nek (by decide)), sset_ne _ _ (nek (by decide)), sset_ne _ _ (nek (by decide)), sset_eq]
  refine ⟨by rw [r20, ud_eq], fun j hj => ?_⟩
  rw [r21, r22, r23, r24, r25]
  by_cases q : j = z
  · subst q
    rw [ud_eq, ud_eq, ud_eq, ud_eq, ud_eq]
    simp only [if_neg (Nat.lt_irrefl j)]
    exact ⟨trivial, trivial, trivial, trivial, trivial⟩
  · rw [ud_ne _ _ q, ud_ne _ _ q, ud_ne _ _ q, ud_ne _ _ q, ud_ne _ _ q]
    simp only [if_pos (show j < z by omega)]
    exact h.2 j (by omega)
theorem jw_SB {I : Mem} {mcs : Nat → Nat} {S : Mem} {z : Nat} {a b c d e : Int32} (h : SB 0 0 mcs I I S) : SB 0 0 mcs (jwM I z a b c d e) (jwM I z a b c d e) S := by
  refine ⟨fun k e' d' hk => ?_, fun _ _ => rfl⟩
  have hk2 : k < 20 := by rcases hk with q | q <;> omega
  rw [jw_see (by show k ≠ 20; omega) (by show k ≠ 21; omega) (by show k ≠ 22; omega) (by show k ≠ 23; omega) (by show k ≠ 24; omega) (by show k ≠ 25; omega)]
  exact h.1 k e' d' hk
theorem jw_rel {I : Mem} {L : Nat → Nat → Int32 → Int32} {n m t z : Nat} {ac mcs : Nat → Nat} {a b c d e : Int32} (h : Rel I I L n m t ac mcs) {X : Mem} (hX : ∀ k : KN, 20 ≤ k.1 → X k = jwM I z a b c d e k) : Rel (jwM I z a b c d e) X L n m t ac mcs := by
  have j : ∀ k : KN, k.1 < 20 ∨ 26 ≤ k.1 → jwM I z a b c d e k = I k := fun k hk => jw_see (by omega) (by omega) (by omega) (by omega) (by omega) (by omega)
  refine rel_congr h (fun k e d hk => j _ (Or.inl (by show k < 20; omega))) (fun i _ => ?_) (fun k hk _ => ?_)
  · rw [hX _ (by decide), j _ (by decide)]
  · rw [hX _ (by show 20 ≤ k; omega), j _ (Or.inr (by show 26 ≤ k; omega))]
/-- an act of both sides -/
theorem li_act {I : Mem} {gm gm' : GM} {V : Nat → BS} {acts : Nat → Act} {z : Nat} {L L' : Nat → Nat → Int32 → Int32} {n m t n' m' t' c : Nat} {ac mcs ac' mcs' : Nat → Nat} (h : LI I gm V acts z L n m t ac mcs c) {a : Act} {S' : Mem} (hs : ActS (V z) (S', n', mcs') a) {J X Y : Mem} (hJ : J = jwM I z (nI a.1) a.2.1 a.2.2.1 a.2.2.2.1 a.2.2.2.2)
    (hX : SB 0 0 mcs' J X S') (hXY : ∀ k : KN, k.1 < 30 → Y k = X k) (hRel : Rel X Y L' n' m' t' ac' mcs') (hg0 : ∀ e, (gm' 0 e).1 = mcs' e) (hg1 : ∀ e, (gm' 1 e).1 ≤ mcs' e) (hm : m' ≤ m + 1) (ht : t' ≤ t + 24) (hac : ∀ d, ac' d ≤ ac d + 1) (hsum : sumN mcs' 10 ≤ sumN mcs 10 + 1) : LInv Y gm' (c + 1) := by
  obtain ⟨h1, h2, h3, h4, h5, h6, h7, h8, h9, h10, h11, h12⟩ := h
  have hjr := jw_JR h2 a
  rw [← hJ] at hjr
  refine ⟨fun j => if j ≤ z then V j else (S', n', mcs'), fun j => if j < z then acts j else a, z + 1, L', n', m', t', ac', mcs', ?_, ?_, h3.ext hs, ?_, ?_, hg0, hg1, by omega, by omega, by omega, fun d => by have := h11 d; have := hac d; omega, by omega⟩
  · exact rel_congr hRel (fun k e d hk => hXY _ (by show k < 30; omega)) (fun _ _ => rfl) (fun _ _ _ => rfl)
  · have q : ∀ k, 20 ≤ k → k ≤ 25 → Y (k, 0, 0, 0) = J (k, 0, 0, 0) := fun k a b => (hXY _ (by show k < 30; omega)).trans (hX.2 _ (Or.inr (Or.inl a)))
    unfold JR
    rw [q 20 (by decide) (by decide), q 21 (by decide) (by decide), q 22 (by decide) (by decide), q 23 (by decide) (by decide), q 24 (by decide) (by decide), q 25 (by decide) (by decide)]
    exact hjr
  · simp only [if_neg (Nat.not_succ_le_self z)]
    refine ⟨fun k e d hk => ?_, fun _ _ => rfl⟩
    have hk2 : k < 20 := by rcases hk with q | q <;> omega
    rw [hXY _ (by show k < 30; omega)]
    exact hX.1 k e d hk
  · simp only [if_neg (Nat.not_succ_le_self z)]
