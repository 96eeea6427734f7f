/-! acts, and the books that they make -/
abbrev Act : Type := Nat × Int32 × Int32 × Int32 × Int32
abbrev BS : Type := Mem × Nat × (Nat → Nat)
def ActS (S S' : BS) (a : Act) : Prop :=
  (∃ d, d < 6 ∧ S.2.1 < 10 ∧ a = (0, nI d, nI 0, nI 0, nI 0) ∧ S' = (mkeM S.1 0 d S.2.1, S.2.1 + 1, S.2.2)) ∨
  (∃ d e f v, d < 6 ∧ e < S.2.1 ∧ f < 4 ∧ a = (1, nI d, nI e, nI f, v) ∧ S' = (tllM S.1 0 e f d v, S.2.1, S.2.2)) ∨
  (∃ d e, d < 6 ∧ e < S.2.1 ∧ a = (2, nI d, nI e, nI 0, nI 0) ∧ S' = (addM (nxtM S.1 0 d) 0 e d (S.2.2 e) (S.1 (1, 0, 0, 0) 0), S.2.1, mup S.2.2 e)) ∨
  (∃ e q F, e < S.2.1 ∧ q < 3 ∧ a = (3, nI e, nI q, F, nI 0) ∧ S' = (shrM S.1 0 e q F 6, S.2.1, S.2.2)) ∨
  (∃ d d2, d < 6 ∧ d2 < 6 ∧ d ≠ d2 ∧ a = (4, nI d, nI d2, nI 0, nI 0) ∧ S' = (mgdM S.1 0 d d2 S.2.2 S.2.1, S.2.1, S.2.2)) ∨
  (∃ k, a = (5, k, nI 0, nI 0, nI 0) ∧ S' = (pasM S.1 0 S.2.2 k S.2.1, S.2.1, S.2.2))
def BN (S : BS) : Prop := S.1 (1, 0, 0, 0) 1 = nI S.2.1 ∧ S.2.1 ≤ 10 ∧ ∀ e, e < 10 → S.1 (4, 0, e, 0) 1 = nI (S.2.2 e)
theorem drop_see {I : Mem} {f b e d : Nat} {k : KN} (h10 : k.1 ≠ 10) (h11 : k.1 ≠ 11) : dropM f I b e d k = I k := by
  unfold dropM
  rw [sset_ne _ _ (fun q => h11 (by rw [q])), sset_ne _ _ (fun q => h10 (by rw [q]))]
theorem tl1_see {I : Mem} {f b e d : Nat} {k : KN} (h2 : k.1 ≠ 2) (h10 : k.1 ≠ 10) (h11 : k.1 ≠ 11) (h13 : k.1 ≠ 13) : tl1M I b e f d k = I k := by
  unfold tl1M nxtM
  rw [sset_ne _ _ (fun q => h13 (by rw [q])), sset_ne _ _ (fun q => h2 (by rw [q])), drop_see h10 h11]
theorem tll_see {I : Mem} {f b e d : Nat} {v : Int32} {k : KN} (h2 : k.1 ≠ 2) (h10 : k.1 ≠ 10) (h11 : k.1 ≠ 11) (h13 : k.1 ≠ 13) : tllM I b e f d v k = I k := by
  unfold tllM
  split
  · exact tl1_see h2 h10 h11 h13
  · rw [sset_ne _ _ (fun q => h11 (by rw [q])), sset_ne _ _ (fun q => h10 (by rw [q])), tl1_see h2 h10 h11 h13]
theorem keep_see {I : Mem} {F : Int32} {b e d : Nat} {k : KN} (h10 : k.1 ≠ 10) (h11 : k.1 ≠ 11) (h13 : k.1 ≠ 13) : keepM F I b e d k = I k := by
  unfold keepM
  rw [sset_ne _ _ (fun q => h13 (by rw [q])), sset_ne _ _ (fun q => h11 (by rw [q])), sset_ne _ _ (fun q => h10 (by rw [q]))]
theorem shr_see {I : Mem} {b e p : Nat} {F : Int32} {k : KN} (h5 : k.1 ≠ 5) (h10 : k.1 ≠ 10) (h11 : k.1 ≠ 11) (h13 : k.1 ≠ 13) : ∀ n, shrM I b e p F n k = I k
  | 0 => by rw [shrM, sset_ne _ _ (fun q => h5 (by rw [q]))]
  | n + 1 => by
    rw [shrM]
    split
    · rw [keep_see h10 h11 h13, shr_see h5 h10 h11 h13 n]
    · exact shr_see h5 h10 h11 h13 n
theorem mup_eq {m : Nat → Nat} {e : Nat} : mup m e e = m e + 1 := if_pos rfl
theorem mup_ne {m : Nat → Nat} {e x : Nat} (h : x ≠ e) : mup m e x = m x := if_neg h
theorem add_4 {I : Mem} {b e d mc : Nat} {month : Int32} : addM I b e d mc month (4, b, e, 0) = upd (I (4, b, e, 0)) 1 (nI (mc + 1)) := sset_eq _ _ _
theorem add_see {I : Mem} {b e d mc : Nat} {month : Int32} {k : KN} (h4 : k ≠ (4, b, e, 0)) (h18 : k.1 ≠ 18) (h19 : k.1 ≠ 19) : addM I b e d mc month k = I k := by
  unfold addM
  rw [sset_ne _ _ h4, markM_see h18 h19]
theorem kz {a b : Nat} (h : Nat.beq a b = false) : a ≠ b := Nat.ne_of_beq_eq_false h
theorem BN.stp {S S' : BS} {a : Act} (h : BN S) (hs : ActS S S' a) : BN S' := by
  obtain ⟨I, n, m⟩ := S
  obtain ⟨h1, h2, h3⟩ := h
  have h1 : I (1, 0, 0, 0) 1 = nI n := h1
  have h2 : n ≤ 10 := h2
  have h3 : ∀ e, e < 10 → I (4, 0, e, 0) 1 = nI (m e) := h3
  rcases hs with ⟨d, hd, hn, -, rfl⟩ | ⟨d, e, f, v, hd, he, hf, -, rfl⟩ | ⟨d, e, hd, he, -, rfl⟩ | ⟨e, q, F, he, hq, -, rfl⟩ | ⟨d, d2, hd, hd2, hne, -, rfl⟩ | ⟨k, -, rfl⟩
  · have hn : n < 10 := hn
    refine ⟨?_, hn, fun e he => ?_⟩
    · show mkeM I 0 d n (1, 0, 0, 0) 1 = nI (n + 1)
      unfold mkeM
      rw [sset_ne _ _ (nek (by decide)), sset_ne _ _ (nek (by decide)), sset_eq]
      rfl
    · show mkeM I 0 d n (4, 0, e, 0) 1 = nI (m e)
      rw [← h3 e he]
      unfold mkeM
      rw [sset_ne _ _ (nek (by decide))]
      by_cases q : e = n
      · subst q
        rw [sset_eq]
        rfl
      · rw [sset_ne _ _ (fun z => q (congrArg (·.2.2.1) z)), sset_ne _ _ (nek (by decide))]
  · exact ⟨(congrFun (tll_see (kz rfl) (kz rfl) (kz rfl) (kz rfl)) 1).trans h1, h2, fun e he => (congrFun (tll_see (kz rfl) (kz rfl) (kz rfl) (kz rfl)) 1).trans (h3 e he)⟩
  · refine ⟨?_, h2, fun e2 he2 => ?_⟩
    · show addM (nxtM I 0 d) 0 e d (m e) (I (1, 0, 0, 0) 0) (1, 0, 0, 0) 1 = nI n
      rw [add_see (nek (by decide)) (kz rfl) (kz rfl), nxtM, sset_ne _ _ (nek (by decide)), h1]
    · show addM (nxtM I 0 d) 0 e d (m e) (I (1, 0, 0, 0) 0) (4, 0, e2, 0) 1 = nI (mup m e e2)
      by_cases q : e2 = e
      · subst q
        rw [add_4, mup_eq]
        rfl
      · rw [add_see (fun z => q (congrArg (·.2.2.1) z)) (kz rfl) (kz rfl), nxtM, sset_ne _ _ (nek (by decide)), mup_ne q, h3 e2 he2]
  · exact ⟨(congrFun (shr_see (kz rfl) (kz rfl) (kz rfl) (kz rfl) 6) 1).trans h1, h2, fun e he => (congrFun (shr_see (kz rfl) (kz rfl) (kz rfl) (kz rfl) 6) 1).trans (h3 e he)⟩
  · exact ⟨(congrFun (mgd_see off1 n) 1).trans h1, h2, fun e he => (congrFun (mgd_see off4 n) 1).trans (h3 e he)⟩
  · exact ⟨(pas_n n).trans h1, h2, fun e he => (congrFun (pas_4 n) 1).trans (h3 e he)⟩
theorem ActS.mc {S S' : BS} {a : Act} (hs : ActS S S' a) (e : Nat) : S.2.2 e ≤ S'.2.2 e ∧ S'.2.2 e ≤ S.2.2 e + 1 := by
  rcases hs with ⟨d, -, -, -, rfl⟩ | ⟨d, e, f, v, -, -, -, -, rfl⟩ | ⟨d, e2, -, -, -, rfl⟩ | ⟨e, q, F, -, -, -, rfl⟩ | ⟨d, d2, -, -, -, -, rfl⟩ | ⟨k, -, rfl⟩
  · exact ⟨Nat.le_refl _, Nat.le_succ _⟩
  · exact ⟨Nat.le_refl _, Nat.le_succ _⟩
  · show S.2.2 e ≤ mup S.2.2 e2 e ∧ mup S.2.2 e2 e ≤ S.2.2 e + 1
    by_cases q : e = e2
    · subst q
      rw [mup_eq]
      exact ⟨Nat.le_succ _, Nat.le_refl _⟩
    · rw [mup_ne q]
      exact ⟨Nat.le_refl _, Nat.le_succ _⟩
  · exact ⟨Nat.le_refl _, Nat.le_succ _⟩
  · exact ⟨Nat.le_refl _, Nat.le_succ _⟩
  · exact ⟨Nat.le_refl _, Nat.le_succ _⟩
/-- a run of z acts from empty books -/
def Runs (V : Nat → BS) (acts : Nat → Act) (z : Nat) : Prop := V 0 = (fun _ _ => 0, 0, fun _ => 0) ∧ ∀ j, j < z → ActS (V j) (V (j + 1)) (acts j)
theorem Runs.bn {V : Nat → BS} {acts : Nat → Act} {z : Nat} (h : Runs V acts z) : ∀ j, j ≤ z → BN (V j)
  | 0, _ => by rw [h.1]; exact ⟨rfl, Nat.zero_le _, fun _ _ => rfl⟩
  | j + 1, hj => (h.bn j (Nat.le_of_succ_le hj)).stp (h.2 j hj)
theorem Runs.mcj {V : Nat → BS} {acts : Nat → Act} {z : Nat} (h : Runs V acts z) (e : Nat) : ∀ j, j ≤ z → (V j).2.2 e ≤ j
  | 0, _ => by rw [h.1]; exact Nat.le_refl 0
  | j + 1, hj => Nat.le_trans ((h.2 j hj).mc e).2 (Nat.succ_le_succ (h.mcj e j (Nat.le_of_succ_le hj)))
theorem Runs.mono {V : Nat → BS} {acts : Nat → Act} {z : Nat} (h : Runs V acts z) (e i : Nat) : ∀ j, i + j ≤ z → (V i).2.2 e ≤ (V (i + j)).2.2 e
  | 0, _ => Nat.le_refl _
  | j + 1, hj => Nat.le_trans (h.mono e i j (Nat.le_of_succ_le hj)) ((h.2 (i + j) hj).mc e).1
theorem Runs.ext {V : Nat → BS} {acts : Nat → Act} {z : Nat} (h : Runs V acts z) {S : BS} {a : Act} (hs : ActS (V z) S a) : Runs (fun j => if j ≤ z then V j else S) (fun j => if j < z then acts j else a) (z + 1) := by
  refine ⟨(if_pos (Nat.zero_le _)).trans h.1, fun j hj => ?_⟩
  by_cases q : j < z
  · simp only [if_pos (Nat.le_of_lt q), if_pos (show j + 1 ≤ z from q), if_pos q]
    exact h.2 j q
  · have q2 : j = z := by omega
    subst q2
    simp only [if_pos (Nat.le_refl j), if_neg (Nat.not_succ_le_self j), if_neg (Nat.lt_irrefl j)]
    exact hs
/-- how many marks more than there are -/
def need (g m : Nat → Nat) : Nat → Nat
  | 0 => 0
  | n + 1 => need g m n + (m n - g n)
theorem need_mono {g m m2 : Nat → Nat} (h : ∀ e, m e ≤ m2 e) : ∀ n, need g m n ≤ need g m2 n
  | 0 => Nat.le_refl 0
  | n + 1 => by
    have := need_mono (g := g) h n
    have := h n
    rw [need, need]
    omega
theorem need_out {g m : Nat → Nat} {e : Nat} : ∀ {n}, n ≤ e → need g (mup m e) n = need g m n
  | 0, _ => rfl
  | n + 1, h => by rw [need, need, need_out (n := n) (by omega), mup_ne (by omega)]
theorem need_mup {g m : Nat → Nat} {e : Nat} : ∀ {n}, e < n → need g (mup m e) n = need g m n + if m e < g e then 0 else 1
  | n + 1, h => by
    by_cases q : e = n
    · subst q
      rw [need, need, need_out (Nat.le_refl e), mup_eq]
      split <;> omega
    · rw [need, need, need_mup (n := n) (by omega), mup_ne (fun z => q z.symm)]
      omega
theorem SB.lst {b b2 : Nat} {mcs : Nat → Nat} {I0 I J : Mem} (h : SB b b2 mcs I0 I J) (e : Nat) (v : Nat → Int32) : SB b b2 mcs I0 (sset I (7, b, e, 0) v) J := by
  refine ⟨fun k' e' d' hk' => ?_, fun k' hk' => ?_⟩
  · rw [sset_ne _ _ (fun z => ?_), h.1 k' e' d' hk']
    have z1 : k' = 7 := congrArg (·.1) z
    subst z1
    rcases hk' with q | q <;> omega
  · rw [sset_ne _ _ (fun z => ?_), h.2 k' hk']
    subst z
    have hk' : b ≠ b ∨ 20 ≤ 7 ∨ 7 = 0 := hk'
    omega
/-- the second books behind j acts -/
def RS (V : Nat → BS) (I0 : Mem) (gm0 : GM) (ad0 : KN → Nat) (Ks0 : List KN) (j : Nat) (ad : KN → Nat) (Ks : List KN) (gm : GM) (I : Mem) : Prop :=
  SB 1 0 (V j).2.2 I0 I (V j).1 ∧ GM2 gm ∧ (∀ b2 e2, b2 ≠ 1 → gm b2 e2 = gm0 b2 e2) ∧ (∀ e, (gm 1 e).1 = max (gm0 1 e).1 ((V j).2.2 e)) ∧ LV gm Ks ∧ LW gm Ks ∧ ∀ k, k ∈ Ks0 → k.1 ≠ 8 → ad k = ad0 k
theorem RS.plain {V : Nat → BS} {I0 : Mem} {gm0 : GM} {ad0 : KN → Nat} {Ks0 : List KN} {j : Nat} {ad : KN → Nat} {Ks : List KN} {gm : GM} {I I' J' : Mem} {n' : Nat} (h : RS V I0 gm0 ad0 Ks0 j ad Ks gm I) (hv : V (j + 1) = (J', n', (V j).2.2)) (hs : SB 1 0 (V j).2.2 I0 I' J') : RS V I0 gm0 ad0 Ks0 (j + 1) ad Ks gm I' := by
  obtain ⟨h1, h2, h3, h4, h5⟩ := h
  refine ⟨?_, h2, h3, ?_, h5⟩
  · rw [hv]; exact hs
  · rw [hv]; exact h4
theorem RS.bk {V : Nat → BS} {I0 : Mem} {gm0 : GM} {ad0 : KN → Nat} {Ks0 : List KN} {j : Nat} {ad : KN → Nat} {Ks : List KN} {gm : GM} {I : Mem} (h : RS V I0 gm0 ad0 Ks0 j ad Ks gm I) (hb : BN (V j)) : BK gm I 1 (V j).2.1 (V j).2.2 := by
  obtain ⟨h1, h2, h3, h4, h5⟩ := h
  refine ⟨?_, hb.2.1, fun e he => ⟨?_, ?_⟩⟩
  · rw [h1.at 1 0 0 (by decide)]; exact hb.1
  · rw [h1.at 4 e 0 (by decide)]; exact hb.2.2 e he
  · rw [h4 e]; exact Nat.le_max_right _ _
theorem lvS_mono {gm gm1 : GM} (h : ∀ b e, (gm b e).1 ≤ (gm1 b e).1) : ∀ k : KN, k.1 ≠ 8 → lvS gm k → lvS gm1 k := by
  intro k h8 q
  by_cases h16 : k.1 = 16 ∨ k.1 = 17 ∨ k.1 = 18 ∨ k.1 = 19
  · obtain ⟨k1, b, e, d⟩ := k
    have h16 : k1 = 16 ∨ k1 = 17 ∨ k1 = 18 ∨ k1 = 19 := h16
    rcases h16 with z | z | z | z
    all_goals
      subst z
      exact ⟨q.1, q.2.1, Nat.lt_of_lt_of_le q.2.2 (h b e)⟩
  · exact (lvS_oth k h8 (fun z => h16 (by omega)) (fun z => h16 (by omega)) (fun z => h16 (by omega)) (fun z => h16 (by omega))).mp q
