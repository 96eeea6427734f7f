/-! two books side by side: the same acts do the same to both -/
theorem anyB_congr {p q : Nat → Bool} : ∀ {n : Nat}, (∀ j, j < n → p j = q j) → anyB p n = anyB q n
  | 0, _ => rfl
  | n + 1, h => by rw [anyB, anyB, anyB_congr (fun j hj => h j (Nat.lt_succ_of_lt hj)), h n (Nat.lt_succ_self n)]
theorem cntN_congr {p q : Nat → Bool} : ∀ {n : Nat}, (∀ j, j < n → p j = q j) → cntN p n = cntN q n
  | 0, _ => rfl
  | n + 1, h => by rw [cntN, cntN, cntN_congr (fun j hj => h j (Nat.lt_succ_of_lt hj)), h n (Nat.lt_succ_self n)]
/-- the rows that a book's answers hang on -/
def KB (mcs : Nat → Nat) (k e d : Nat) : Prop := (k = 1 ∨ k = 2 ∨ k = 4 ∨ k = 5 ∨ k = 9 ∨ k = 10 ∨ k = 11 ∨ k = 13 ∨ k = 15) ∨ ((k = 18 ∨ k = 19) ∧ d < mcs e)
def SB (b b2 : Nat) (mcs : Nat → Nat) (I0 I J : Mem) : Prop := (∀ k e d, KB mcs k e d → I (k, b, e, d) = J (k, b2, e, d)) ∧ ∀ k : KN, (k.2.1 ≠ b ∨ 20 ≤ k.1 ∨ k.1 = 0) → I k = I0 k
section SIDE
variable {b b2 : Nat} {mcs : Nat → Nat} {I0 I J : Mem} {e d d2 n mc : Nat} {month F : Int32}
theorem SB.set (h : SB b b2 mcs I0 I J) (k e d : Nat) (hk : k ≠ 0 ∧ k < 20) {f g : Nat → Int32} (hfg : f = g) : SB b b2 mcs I0 (sset I (k, b, e, d) f) (sset J (k, b2, e, d) g) := by
  refine ⟨fun k' e' d' hk' => ?_, fun k' hk' => ?_⟩
  · by_cases q : k' = k ∧ e' = e ∧ d' = d
    · obtain ⟨rfl, rfl, rfl⟩ := q
      rw [sset_eq, sset_eq, hfg]
    · rw [sset_ne _ _ (fun z => q ⟨congrArg (·.1) z, congrArg (·.2.2.1) z, congrArg (·.2.2.2) z⟩), sset_ne _ _ (fun z => q ⟨congrArg (·.1) z, congrArg (·.2.2.1) z, congrArg (·.2.2.2) z⟩), h.1 k' e' d' hk']
  · rw [sset_ne _ _ (fun z => ?_), h.2 k' hk']
    subst z
    have hk' : b ≠ b ∨ 20 ≤ k ∨ k = 0 := hk'
    omega
theorem SB.at (h : SB b b2 mcs I0 I J) (k e d : Nat) (hk : (k = 1 ∨ k = 2 ∨ k = 4 ∨ k = 5 ∨ k = 9 ∨ k = 10 ∨ k = 11 ∨ k = 13 ∨ k = 15)) : I (k, b, e, d) = J (k, b2, e, d) := h.1 k e d (Or.inl hk)
theorem SB.m18 (h : SB b b2 mcs I0 I J) {j : Nat} (hj : j < mcs e) : I (18, b, e, j) = J (18, b2, e, j) := h.1 18 e j (Or.inr ⟨Or.inl rfl, hj⟩)
theorem SB.m19 (h : SB b b2 mcs I0 I J) {j : Nat} (hj : j < mcs e) : I (19, b, e, j) = J (19, b2, e, j) := h.1 19 e j (Or.inr ⟨Or.inr rfl, hj⟩)
theorem SB.ffE (h : SB b b2 mcs I0 I J) (e d : Nat) : ff I b e d = ff J b2 e d := by unfold ff; rw [h.at 4 e 0 (by decide), h.at 5 e 0 (by decide)]
theorem SB.cvdE (h : SB b b2 mcs I0 I J) (hm : mc ≤ mcs e) : cvd I b e d mc = cvd J b2 e d mc := anyB_congr (fun j hj => by unfold mcv; rw [h.m19 (Nat.lt_of_lt_of_le hj hm), h.m18 (Nat.lt_of_lt_of_le hj hm), h.at 10 e d (by decide)])
theorem SB.stoE (h : SB b b2 mcs I0 I J) (hm : mc ≤ mcs e) : sto I b e d mc = sto J b2 e d mc := by unfold sto; rw [h.at 9 e d (by decide), h.at 10 e d (by decide), h.cvdE hm]
theorem SB.cmkE (h : SB b b2 mcs I0 I J) (hm : mc ≤ mcs e) : cmk I b e d mc = cmk J b2 e d mc := cntN_congr (fun j hj => by rw [h.m19 (Nat.lt_of_lt_of_le hj hm)])
theorem SB.nwmE (h : SB b b2 mcs I0 I J) : ∀ {mc : Nat}, mc ≤ mcs e → nwm I b e d mc = nwm J b2 e d mc
  | 0, _ => rfl
  | mc + 1, hm => by rw [nwm, nwm, h.nwmE (mc := mc) (Nat.le_of_succ_le hm), h.m19 hm]
theorem SB.noteRE (h : SB b b2 mcs I0 I J) : ∀ {mc : Nat}, mc ≤ mcs e → noteR I b e d mc = noteR J b2 e d mc
  | 0, _ => by rw [noteR, noteR, h.at 15 e d (by decide), h.at 13 e d (by decide)]
  | mc + 1, hm => by rw [noteR, noteR, h.noteRE (mc := mc) (Nat.le_of_succ_le hm), h.m19 hm, h.m18 hm]
theorem SB.map19 (h : SB b b2 mcs I0 I J) (e n : Nat) (g : (Nat → Int32) → Nat → Int32) : SB b b2 mcs I0 (fun k => if k.1 = 19 ∧ k.2.1 = b ∧ k.2.2.1 = e ∧ k.2.2.2 < n then g (I k) else I k) (fun k => if k.1 = 19 ∧ k.2.1 = b2 ∧ k.2.2.1 = e ∧ k.2.2.2 < n then g (J k) else J k) := by
  refine ⟨fun k' e' d' hk' => ?_, fun k' hk' => ?_⟩
  · have q := h.1 k' e' d' hk'
    show (if k' = 19 ∧ b = b ∧ e' = e ∧ d' < n then g (I (k', b, e', d')) else I (k', b, e', d')) = if k' = 19 ∧ b2 = b2 ∧ e' = e ∧ d' < n then g (J (k', b2, e', d')) else J (k', b2, e', d')
    rw [q]
    by_cases z : k' = 19 ∧ e' = e ∧ d' < n
    · rw [if_pos ⟨z.1, rfl, z.2⟩, if_pos ⟨z.1, rfl, z.2⟩]
    · rw [if_neg (fun y => z ⟨y.1, y.2.2⟩), if_neg (fun y => z ⟨y.1, y.2.2⟩)]
  · show (if k'.1 = 19 ∧ k'.2.1 = b ∧ k'.2.2.1 = e ∧ k'.2.2.2 < n then g (I k') else I k') = I0 k'
    rw [if_neg (fun z => by omega)]
    exact h.2 k' hk'
theorem SB.forget (h : SB b b2 mcs I0 I J) (hm : mc ≤ mcs e) : SB b b2 mcs I0 (forgetM I b e d mc) (forgetM J b2 e d mc) :=
  (((((h.map19 e mc (fun r => upd r d (-1))).set 9 e d (by decide) (by rw [h.at 9 e d (by decide)])).set 15 e d (by decide) (h.noteRE hm)).set 10 e d (by decide) rfl).set 11 e d (by decide) rfl).set 13 e d (by decide) rfl
theorem SB.old (h : SB b b2 mcs I0 I J) (hm : mc ≤ mcs e) : isOldB I b e mc month d = isOldB J b2 e mc month d := by unfold isOldB; rw [h.stoE hm, h.nwmE hm]
theorem SB.fwo (h : SB b b2 mcs I0 I J) (hm : mc ≤ mcs e) : ∀ n, SB b b2 mcs I0 (fwoM I b e mc month n) (fwoM J b2 e mc month n)
  | 0 => h
  | n + 1 => by
    have ih := h.fwo hm n
    rw [fwoM, fwoM, ih.old hm]
    split
    · exact ih.forget hm
    · exact ih
theorem SB.otdE (h : SB b b2 mcs I0 I J) (e d d2 : Nat) : otd I b e d d2 = otd J b2 e d d2 := by
  unfold otd
  rw [h.at 9 e d (by decide), h.at 9 e d2 (by decide), h.at 10 e d (by decide), h.at 15 e d2 (by decide)]
theorem SB.braid (h : SB b b2 mcs I0 I J) (lo hi e d d2 : Nat) : SB b b2 mcs I0 (braidM lo hi I b e d d2) (braidM lo hi J b2 e d d2) := by
  have a1 := h.at 10 e d (by decide)
  have a2 := h.at 10 e d2 (by decide)
  have a3 := h.at 11 e d (by decide)
  have a4 := h.at 11 e d2 (by decide)
  have a5 := h.at 13 e d (by decide)
  have a6 := h.at 13 e d2 (by decide)
  exact (((((h.set 10 e d (by decide) (by simp only [a1, a2, a3, a4, a5, a6])).set 11 e d (by decide) (by simp only [a1, a2, a3, a4, a5, a6])).set 10 e d2 (by decide) (by simp only [a1, a2, a3, a4, a5, a6])).set 11 e d2 (by decide) (by simp only [a1, a2, a3, a4, a5, a6])).set 13 e d (by decide) (by simp only [a1, a2, a3, a4, a5, a6])).set 13 e d2 (by decide) (by simp only [a1, a2, a3, a4, a5, a6])
theorem SB.fld (h : SB b b2 mcs I0 I J) (e d d2 : Nat) (F : Int32) : ∀ n, SB b b2 mcs I0 (fldM I b e d d2 F n) (fldM J b2 e d d2 F n)
  | 0 => h
  | n + 1 => by
    have ih := h.fld e d d2 F n
    rw [fldM, fldM]
    split
    · exact ih.braid _ _ _ _ _
    · exact ih
theorem SB.knw (h : SB b b2 mcs I0 I J) (e d d2 : Nat) : SB b b2 mcs I0 (knwM I b e d d2) (knwM J b2 e d d2) :=
  (h.set 9 e d (by decide) (by rw [h.at 9 e d (by decide)])).set 9 e d2 (by decide) (by rw [h.at 9 e d2 (by decide)])
theorem SB.ebr (h : SB b b2 mcs I0 I J) (e d d2 mc : Nat) (F month : Int32) : SB b b2 mcs I0 (ebrM I b e d d2 mc F month) (ebrM J b2 e d d2 mc F month) :=
  ((h.knw e d d2).fld e d d2 F 4).map19 e mc (fun r => sprd r d d2 month)
theorem SB.exch (h : SB b b2 mcs I0 I J) (e d d2 : Nat) : SB b b2 mcs I0 (exchM I b e d d2) (exchM J b2 e d d2) := by
  have a1 := h.at 9 e d (by decide)
  have a2 := h.at 9 e d2 (by decide)
  have a3 := h.at 15 e d (by decide)
  have a4 := h.at 15 e d2 (by decide)
  unfold exchM
  rw [a1, a2]
  split
  · exact (((h.set 9 e d (by decide) rfl).set 9 e d2 (by decide) rfl).set 15 e d (by decide) (by rw [a3, a4])).set 15 e d2 (by decide) (by rw [a3, a4])
  · exact h
theorem SB.mg1 (h : SB b b2 mcs I0 I J) (hm : mc ≤ mcs e) : SB b b2 mcs I0 (mg1M I b e d d2 mc month) (mg1M J b2 e d d2 mc month) := by
  unfold mg1M
  rw [h.otdE, h.otdE, h.at 9 e d (by decide), h.at 9 e d2 (by decide), h.ffE, h.ffE]
  split
  · exact h.forget hm
  · split
    · exact h.forget hm
    · split
      · split
        · exact h
        · exact h.ebr _ _ _ _ _ _
      · exact h.ebr _ _ _ _ _ _
theorem SB.mg2 (h : SB b b2 mcs I0 I J) : SB b b2 mcs I0 (mg2M I b e d d2) (mg2M J b2 e d d2) := by
  unfold mg2M
  rw [h.at 9 e d (by decide), h.at 9 e d2 (by decide)]
  split
  · split
    · exact h.exch _ _ _
    · exact h
  · exact h
theorem SB.mge (h : SB b b2 mcs I0 I J) (hm : mc ≤ mcs e) : SB b b2 mcs I0 (mgeM I b e d d2 mc month) (mgeM J b2 e d d2 mc month) := by
  unfold mgeM
  rw [h.ffE, h.ffE]
  split
  · exact h
  · exact (h.mg1 hm).mg2
theorem SB.mgd (h : SB b b2 mcs I0 I J) (d d2 : Nat) : ∀ n, SB b b2 mcs I0 (mgdM I b d d2 mcs n) (mgdM J b2 d d2 mcs n)
  | 0 => h
  | n + 1 => by
    rw [mgdM, mgdM, h.at 1 0 0 (by decide)]
    exact (h.mgd d d2 n).mge (Nat.le_refl _)
theorem SB.pas (h : SB b b2 mcs I0 I J) (k : Int32) : ∀ n, SB b b2 mcs I0 (pasM I b mcs k n) (pasM J b2 mcs k n)
  | 0 => h.set 1 0 0 (by decide) (by rw [h.at 1 0 0 (by decide)])
  | n + 1 => by
    rw [pasM, pasM, h.at 1 0 0 (by decide)]
    exact (h.pas k n).fwo (Nat.le_refl _) 6
theorem SB.keep (h : SB b b2 mcs I0 I J) (F : Int32) (e d : Nat) : SB b b2 mcs I0 (keepM F I b e d) (keepM F J b2 e d) :=
  ((h.set 10 e d (by decide) (by rw [h.at 10 e d (by decide)])).set 11 e d (by decide) (by rw [h.at 11 e d (by decide)])).set 13 e d (by decide) (by rw [h.at 13 e d (by decide)])
theorem SB.drop (h : SB b b2 mcs I0 I J) (f e d : Nat) : SB b b2 mcs I0 (dropM f I b e d) (dropM f J b2 e d) :=
  (h.set 10 e d (by decide) (by rw [h.at 10 e d (by decide)])).set 11 e d (by decide) (by rw [h.at 11 e d (by decide)])
theorem SB.shr (h : SB b b2 mcs I0 I J) (e p : Nat) (F : Int32) : ∀ n, SB b b2 mcs I0 (shrM I b e p F n) (shrM J b2 e p F n)
  | 0 => h.set 5 e 0 (by decide) (by rw [h.at 5 e 0 (by decide)])
  | n + 1 => by
    rw [shrM, shrM]
    split
    · exact (h.shr e p F n).keep F e n
    · exact h.shr e p F n
theorem SB.nxt (h : SB b b2 mcs I0 I J) (d : Nat) : SB b b2 mcs I0 (nxtM I b d) (nxtM J b2 d) := h.set 2 0 0 (by decide) (by rw [h.at 2 0 0 (by decide)])
theorem SB.tl1 (h : SB b b2 mcs I0 I J) (e f d : Nat) : SB b b2 mcs I0 (tl1M I b e f d) (tl1M J b2 e f d) :=
  ((h.drop f e d).nxt d).set 13 e d (by decide) (by rw [h.at 13 e d (by decide), h.at 2 0 0 (by decide)])
theorem SB.tll (h : SB b b2 mcs I0 I J) (e f d : Nat) (v : Int32) : SB b b2 mcs I0 (tllM I b e f d v) (tllM J b2 e f d v) := by
  have q := h.tl1 e f d
  unfold tllM
  split
  · exact q
  · exact (q.set 10 e d (by decide) (by rw [q.at 10 e d (by decide), h.at 2 0 0 (by decide)])).set 11 e d (by decide) (by rw [q.at 11 e d (by decide)])
theorem SB.mke (h : SB b b2 mcs I0 I J) (d n : Nat) : SB b b2 mcs I0 (mkeM I b d n) (mkeM J b2 d n) :=
  ((h.set 1 0 0 (by decide) (by rw [h.at 1 0 0 (by decide)])).set 4 n 0 (by decide) (by rw [h.at 4 n 0 (by decide)])).set 9 n d (by decide) (by rw [h.at 9 n d (by decide)])
def mup (mcs : Nat → Nat) (e : Nat) : Nat → Nat := fun x => if x = e then mcs e + 1 else mcs x
/-- a set row is the same on both, whatever it was -/
theorem SB.put (h : SB b b2 mcs I0 I J) (mcs2 : Nat → Nat) (k e d : Nat) (hk : k ≠ 0 ∧ k < 20) {f g : Nat → Int32} (hfg : f = g) (hm : ∀ k' e' d', KB mcs2 k' e' d' → KB mcs k' e' d' ∨ (k' = k ∧ e' = e ∧ d' = d)) : SB b b2 mcs2 I0 (sset I (k, b, e, d) f) (sset J (k, b2, e, d) g) := by
  refine ⟨fun k' e' d' hk' => ?_, (h.set k e d hk hfg).2⟩
  rcases hm k' e' d' hk' with q | ⟨rfl, rfl, rfl⟩
  · exact (h.set k e d hk hfg).1 k' e' d' q
  · rw [sset_eq, sset_eq, hfg]
theorem SB.add (h : SB b b2 mcs I0 I J) (e d : Nat) (month : Int32) : SB b b2 (mup mcs e) I0 (addM I b e d (mcs e) month) (addM J b2 e d (mcs e) month) := by
  have a13 := h.at 13 e d (by decide)
  have a4 := h.at 4 e 0 (by decide)
  have q := h.set 18 e (mcs e) (by decide) (f := fun c => imax 0 (I (13, b, e, d) c)) (g := fun c => imax 0 (J (13, b2, e, d) c)) (by rw [a13])
  have q2 : ∀ k' e' d', KB (mup mcs e) k' e' d' → KB mcs k' e' d' ∨ ((k' = 18 ∨ k' = 19) ∧ e' = e ∧ d' = mcs e) := by
    intro k' e' d' hk
    rcases hk with hk | ⟨hk, hd⟩
    · exact Or.inl (Or.inl hk)
    · unfold mup at hd
      by_cases z : e' = e
      · rw [if_pos z] at hd
        subst z
        by_cases y : d' = mcs e'
        · exact Or.inr ⟨hk, rfl, y⟩
        · exact Or.inl (Or.inr ⟨hk, by omega⟩)
      · rw [if_neg z] at hd
        exact Or.inl (Or.inr ⟨hk, hd⟩)
  have r : SB b b2 (mup mcs e) I0 (markM I b e (mcs e) d month) (markM J b2 e (mcs e) d month) := by
    refine ⟨fun k' e' d' hk' => ?_, (q.set 19 e (mcs e) (by decide) rfl).2⟩
    rcases q2 k' e' d' hk' with z | ⟨z | z, rfl, rfl⟩
    · exact (q.set 19 e (mcs e) (by decide) (f := upd (fun _ => -1) d month) rfl).1 k' e' d' z
    · subst z
      unfold markM
      rw [sset_ne _ _ (nek (by decide) : ((18, b, e', mcs e') : KN) ≠ (19, b, e', mcs e')), sset_ne _ _ (nek (by decide) : ((18, b2, e', mcs e') : KN) ≠ (19, b2, e', mcs e')), sset_eq, sset_eq, a13]
    · subst z
      unfold markM
      rw [sset_eq, sset_eq]
  exact r.set 4 e 0 (by decide) (by rw [a4])
end SIDE
