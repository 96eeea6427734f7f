/-! what holds between two calls -/
theorem mEnt_lo {J : Mem} {d n : Nat} {k : KN} (h : k.1 < 30) : mEntM J d n k = J k := by
  unfold mEntM
  rw [sset_ne _ _ (fun q => by rw [q] at h; exact absurd h (by decide)), sset_ne _ _ (fun q => by rw [q] at h; exact absurd h (by decide)), sset_ne _ _ (fun q => by rw [q] at h; exact absurd h (by decide)), th_see (by omega)]
theorem mfor_lo {J : Mem} {d e m : Nat} {k : KN} (h : k.1 < 30) : mforM J d e m k = J k := mfor_see (by omega) (by omega) (by omega) (by omega) (by omega) (by omega)
theorem joi_lo {J : Mem} {d o e m : Nat} {k : KN} (h : k.1 < 30) : joiM J d o e m k = J k := by
  unfold joiM
  rw [jl_see (by omega), jn_see (by omega) (by omega) (by omega) (by omega), kbo_see (by omega)]
theorem mmS_lo {J : Mem} {d o e m : Nat} {k : KN} (h : k.1 < 30) : mmS J d o e m k = J k := by
  have h1 : mm1 J d o e m k = J k := by
    unfold mm1
    split <;> (try split) <;> (try split) <;> first | rfl | exact joi_lo h | exact mfor_lo h
  unfold mmS
  split
  · unfold mm2
    split
    · split
      · rw [not_see (by omega) (by omega), h1]
      · exact h1
    · exact h1
  · rfl
theorem mm_lo {J : Mem} {d o m : Nat} {k : KN} (h : k.1 < 30) : ∀ i, mmM J d o m i k = J k
  | 0 => by rw [mmM, sset_ne _ _ (fun q => by rw [q] at h; exact absurd h (by decide)), th_see (by omega)]
  | i + 1 => by rw [mmM, mmS_lo h, mm_lo h i]
theorem mpE_lo {J : Mem} {d m : Nat} {k : KN} (h : k.1 < 30) : ∀ i, mpE J d m i k = J k
  | 0 => rfl
  | i + 1 => by
    rw [mpE]
    split
    · rw [mfor_lo h, mpE_lo h i]
    · exact mpE_lo h i
theorem mpD_lo {J : Mem} {x : Int32} {n m : Nat} {k : KN} (h : k.1 < 30) : ∀ i, mpD J x n m i k = J k
  | 0 => by rw [mpD, sset_ne _ _ (fun q => by rw [q] at h; exact absurd h (by decide)), th_see (by omega)]
  | i + 1 => by rw [mpD, mpE_lo h, mpD_lo h i]
theorem th_lo {J : Mem} {w : Nat} {k : KN} (h : k.1 < 30) : thM J w k = J k := th_see (by omega)
theorem mtl_lo {J : Mem} {d e f : Nat} {w : Int32} {k : KN} (h : k.1 < 30) : mtlM J d e f w k = J k := mtl_see (by omega) (by omega) (by omega) (by omega) (by omega)
theorem mdl_lo {J : Mem} {d e m : Nat} {k : KN} (h : k.1 < 30) : mdlM J d e m k = J k := mdl_see (by omega) (by omega) (by omega) (by omega) (by omega)
theorem msh_lo {J : Mem} {e q : Nat} {F : Int32} {k : KN} (h : k.1 < 30) : mshM J e q F k = J k := msh_see (by omega) (by omega) (by omega) (by omega)
def LI (I : Mem) (gm : GM) (V : Nat → BS) (acts : Nat → Act) (z : Nat) (L : Nat → Nat → Int32 → Int32) (n m t : Nat) (ac mcs : Nat → Nat) (c : Nat) : Prop :=
  Rel I I L n m t ac mcs ∧ JR I acts z ∧ Runs V acts z ∧ SB 0 0 mcs I I (V z).1 ∧ (V z).2 = (n, mcs) ∧ (∀ e, (gm 0 e).1 = mcs e) ∧ (∀ e, (gm 1 e).1 ≤ mcs e) ∧ z ≤ c ∧ m ≤ c ∧ t ≤ 24 * c ∧ (∀ d, ac d ≤ c) ∧ sumN mcs 10 ≤ c
def LInv (I : Mem) (gm : GM) (c : Nat) : Prop := ∃ V acts z L n m t ac mcs, LI I gm V acts z L n m t ac mcs c
theorem jw_JR {I : Mem} {acts : Nat → Act} {z : Nat} (h : JR I acts z) (a : Act) : JR (jwM I z (nI a.1) a.2.1 a.2.2.1 a.2.2.2.1 a.2.2.2.2) (fun j => if j < z then acts j else a) (z + 1) := by
  have r20 : jwM I z (nI a.1) a.2.1 a.2.2.1 a.2.2.2.1 a.2.2.2.2 (20, 0, 0, 0) = upd (I (20, 0, 0, 0)) 0 (nI (z + 1)) := sset_eq _ _ _
  have r25 : jwM I z (nI a.1) a.2.1 a.2.2.1 a.2.2.2.1 a.2.2.2.2 (25, 0, 0, 0) = upd (I (25, 0, 0, 0)) z a.2.2.2.2 := by
    unfold jwM
    rw [sset_ne _ _ (nek (by decide)), sset_eq]
  have r24 : jwM I z (nI a.1) a.2.1 a.2.2.1 a.2.2.2.1 a.2.2.2.2 (24, 0, 0, 0) = upd (I (24, 0, 0, 0)) z a.2.2.2.1 := by
    unfold jwM
    rw [sset_ne _ _ (nek (by decide)), sset_ne _ _ (nek (by decide)), sset_eq]
  have r23 : jwM I z (nI a.1) a.2.1 a.2.2.1 a.2.2.2.1 a.2.2.2.2 (23, 0, 0, 0) = upd (I (23, 0, 0, 0)) z a.2.2.1 := by
    unfold jwM
    rw [sset_ne _ _ (nek (by decide)), sset_ne _ _ (nek (by decide)), sset_ne _ _ (nek (by decide)), sset_eq]
  have r22 : jwM I z (nI a.1) a.2.1 a.2.2.1 a.2.2.2.1 a.2.2.2.2 (22, 0, 0, 0) = upd (I (22, 0, 0, 0)) z a.2.1 := by
    unfold jwM
    rw [sset_ne _ _ (nek (by decide)), sset_ne _ _ (nek (by decide)), sset_ne _ _ (nek (by decide)), sset_ne _ _ (nek (by decide)), sset_eq]
  have r21 : jwM I z (nI a.1) a.2.1 a.2.2.1 a.2.2.2.1 a.2.2.2.2 (21, 0, 0, 0) = upd (I (21, 0, 0, 0)) z (nI a.1) := by
    unfold jwM
    rw [sset_ne _ _ (nek (by decide)), sset_ne _ _ (nek (by decide)), sset_ne _ _ (nek (by decide)), sset_ne _ _ (nek (by decide)), sset_ne _ _ (nek (by decide)), sset_eq]
  refine ⟨by rw [r20, ud_eq], fun j hj => ?_⟩
  rw [r21, r22, r23, r24, r25]
  by_cases q : j = z
  · subst q
    rw [ud_eq, ud_eq, ud_eq, ud_eq, ud_eq]
    simp only [if_neg (Nat.lt_irrefl j)]
    exact ⟨trivial, trivial, trivial, trivial, trivial⟩
  · rw [ud_ne _ _ q, ud_ne _ _ q, ud_ne _ _ q, ud_ne _ _ q, ud_ne _ _ q]
    simp only [if_pos (show j < z by omega)]
    exact h.2 j (by omega)
theorem jw_SB {I : Mem} {mcs : Nat → Nat} {S : Mem} {z : Nat} {a b c d e : Int32} (h : SB 0 0 mcs I I S) : SB 0 0 mcs (jwM I z a b c d e) (jwM I z a b c d e) S := by
  refine ⟨fun k e' d' hk => ?_, fun _ _ => rfl⟩
  have hk2 : k < 20 := by rcases hk with q | q <;> omega
  rw [jw_see (by show k ≠ 20; omega) (by show k ≠ 21; omega) (by show k ≠ 22; omega) (by show k ≠ 23; omega) (by show k ≠ 24; omega) (by show k ≠ 25; omega)]
  exact h.1 k e' d' hk
theorem jw_rel {I : Mem} {L : Nat → Nat → Int32 → Int32} {n m t z : Nat} {ac mcs : Nat → Nat} {a b c d e : Int32} (h : Rel I I L n m t ac mcs) {X : Mem} (hX : ∀ k, 30 ≤ k → k ≤ 42 → X (k, 0, 0, 0) = I (k, 0, 0, 0)) : Rel (jwM I z a b c d e) X L n m t ac mcs := by
  have j : ∀ k : KN, k.1 < 20 ∨ 26 ≤ k.1 → jwM I z a b c d e k = I k := fun k hk => jw_see (by omega) (by omega) (by omega) (by omega) (by omega) (by omega)
  refine rel_congr h (fun k e d hk => j _ (Or.inl (by show k < 20; omega))) (fun i _ => ?_) (fun k hk hk2 => ?_)
  · rw [hX _ (by decide) (by decide)]
  · exact hX _ (by omega) hk2
/-- an act of both sides -/
theorem li_act {I : Mem} {gm gm' : GM} {V : Nat → BS} {acts : Nat → Act} {z : Nat} {L L' : Nat → Nat → Int32 → Int32} {n m t n' m' t' c : Nat} {ac mcs ac' mcs' : Nat → Nat} (h : LI I gm V acts z L n m t ac mcs c) {a : Act} {S' : Mem} (hs : ActS (V z) (S', n', mcs') a) {X Y : Mem}
    (hX : SB 0 0 mcs' (jwM I z (nI a.1) a.2.1 a.2.2.1 a.2.2.2.1 a.2.2.2.2) X S') (hXY : ∀ k : KN, k.1 < 30 → Y k = X k) (hRel : Rel X Y L' n' m' t' ac' mcs') (hg0 : ∀ e, (gm' 0 e).1 = mcs' e) (hg1 : ∀ e, (gm' 1 e).1 ≤ mcs' e) (hm : m' ≤ m + 1) (ht : t' ≤ t + 24) (hac : ∀ d, ac' d ≤ ac d + 1) (hsum : sumN mcs' 10 ≤ sumN mcs 10 + 1) : LInv Y gm' (c + 1) := by
  obtain ⟨h1, h2, h3, h4, h5, h6, h7, h8, h9, h10, h11, h12⟩ := h
  have hjr := jw_JR h2 a
  refine ⟨fun j => if j ≤ z then V j else (S', n', mcs'), fun j => if j < z then acts j else a, z + 1, L', n', m', t', ac', mcs', ?_, ?_, h3.ext hs, ?_, ?_, hg0, hg1, by omega, by omega, by omega, fun d => by have := h11 d; have := hac d; omega, by omega⟩
  · exact rel_congr hRel (fun k e d hk => hXY _ (by show k < 30; omega)) (fun _ _ => rfl) (fun _ _ _ => rfl)
  · have q : ∀ k, 20 ≤ k → k ≤ 25 → Y (k, 0, 0, 0) = jwM I z (nI a.1) a.2.1 a.2.2.1 a.2.2.2.1 a.2.2.2.2 (k, 0, 0, 0) := fun k a b => (hXY _ (by show k < 30; omega)).trans (hX.2 _ (Or.inr (Or.inl a)))
    unfold JR
    rw [q 20 (by decide) (by decide), q 21 (by decide) (by decide), q 22 (by decide) (by decide), q 23 (by decide) (by decide), q 24 (by decide) (by decide), q 25 (by decide) (by decide)]
    exact hjr
  · simp only [if_neg (Nat.not_succ_le_self z)]
    refine ⟨fun k e d hk => ?_, fun _ _ => rfl⟩
    have hk2 : k < 20 := by rcases hk with q | q <;> omega
    rw [hXY _ (by show k < 30; omega)]
    exact hX.1 k e d hk
  · simp only [if_neg (Nat.not_succ_le_self z)]
/-- a call that leaves both sides as they are -/
theorem li_same {I Y : Mem} {gm : GM} {c c' : Nat} (h : LInv I gm c) (hc : c ≤ c') (hY : ∀ k : KN, k.1 < 30 ∨ (30 < k.1 ∧ k.1 < 50) → Y k = I k) (h30 : ∀ j, j < 4 → Y (30, 0, 0, 0) j = I (30, 0, 0, 0) j) : LInv Y gm c' := by
  obtain ⟨V, acts, z, L, n, m, t, ac, mcs, h1, h2, h3, h4, h5, h6, h7, h8, h9, h10, h11, h12⟩ := h
  refine ⟨V, acts, z, L, n, m, t, ac, mcs, ?_, ?_, h3, ?_, h5, h6, h7, by omega, by omega, by omega, fun d => Nat.le_trans (h11 d) hc, by omega⟩
  · exact rel_congr h1 (fun k e d hk => hY _ (Or.inl (by show k < 30; omega))) (fun j hj => h30 j (by omega)) (fun k a b => hY _ (Or.inr ⟨by show 30 < k; omega, by show k < 50; omega⟩))
  · have q : ∀ k, 20 ≤ k → k ≤ 25 → Y (k, 0, 0, 0) = I (k, 0, 0, 0) := fun k a b => hY _ (Or.inl (by show k < 30; omega))
    unfold JR
    rw [q 20 (by decide) (by decide), q 21 (by decide) (by decide), q 22 (by decide) (by decide), q 23 (by decide) (by decide), q 24 (by decide) (by decide), q 25 (by decide) (by decide)]
    exact h2
  · refine ⟨fun k e d hk => ?_, fun _ _ => rfl⟩
    have hk2 : k < 20 := by rcases hk with q | q <;> omega
    rw [hY _ (Or.inl (by show k < 30; omega))]
    exact h4.1 k e d hk
theorem li_bk {I : Mem} {gm : GM} {V : Nat → BS} {acts : Nat → Act} {z : Nat} {L : Nat → Nat → Int32 → Int32} {n m t c : Nat} {ac mcs : Nat → Nat} (h : LI I gm V acts z L n m t ac mcs c) : BK gm I 0 n mcs := by
  obtain ⟨h1, h2, h3, h4, h5, h6, h7, h8, h9, h10, h11, h12⟩ := h
  have hb := h3.bn z (Nat.le_refl z)
  refine ⟨h1.gl.nI_, h1.gl.n10, fun e he => ⟨?_, Nat.le_of_eq (h6 e).symm⟩⟩
  rw [h4.at 4 e 0 (by decide)]
  have := hb.2.2 e he
  rw [h5] at this
  exact this
theorem li_mc {I : Mem} {gm : GM} {V : Nat → BS} {acts : Nat → Act} {z : Nat} {L : Nat → Nat → Int32 → Int32} {n m t c : Nat} {ac mcs : Nat → Nat} (h : LI I gm V acts z L n m t ac mcs c) (hc : c ≤ 512) (e : Nat) : mcs e < 600 := by
  obtain ⟨h1, h2, h3, h4, h5, h6, h7, h8, h9, h10, h11, h12⟩ := h
  have := h3.mcj e z (Nat.le_refl z)
  rw [h5] at this
  have this : mcs e ≤ z := this
  omega
