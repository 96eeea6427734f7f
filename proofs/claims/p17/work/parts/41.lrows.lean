/-! rows for the list's own methods -/
section LROWS
variable {p : Program} {l : Launch} {e : Env} {R : Room} {s : State} {m : MethodId} {args : Array Value} {below : List Frame} {meth : Method} {c : Code} {H : Heap} {locs : List Loc} {cells slots : Nat} {Q : State → Prop}
variable {cc : ByteArray} {own : String} {nL : Nat} {D : va_G} {tc : TC} {dz : Nat} {A : Nat → Prop} {ad ad0 : KN → Nat} {Ks Ks0 : List KN} {st : KN → va_E} {pc : Nat} {ls : Array Slot} {rest : List Value} {index : Nat}
theorem r_alen (X : Cx p s m args meth c cc own nL D tc dz A) (h : Sx D A ad Ks st s H locs) {a : Nat} {k : KN} (ha : a = ad k) (hk : k ∈ Ks) {cA : ClassId} {x : vp_A} (t0 : Nat) {ty : FieldType} (ht : (tysOf tc)[t0]? = some (cA, ty)) (he : st k = .inl (cA, x)) (hdg : decode cc pc = .ok (.arraylength, 1))
    (kk : W p l e R s m args below meth c H locs cells slots Q (F0 m (pc + 1) ls (.int (nI x.1) :: rest))) : W p l e R s m args below meth c H locs cells slots Q (F0 m pc ls (.ref a :: rest)) := by
  subst ha
  exact x_alen X h hk t0 ht he hdg kk
theorem r_copy (X : Cx p s m args meth c cc own nL D tc dz A) (h : Sx D A ad Ks st s H locs) (hsize : ls.size = nL) {a0 a1 : Nat} {k0 k1 : KN} (ha0 : a0 = ad k0) (hk0 : k0 ∈ Ks) (ha1 : a1 = ad k1) (hk1 : k1 ∈ Ks) {n0 n1 N : Nat} {f g : Nat → Option Nat} (he0 : st k0 = .inl (tc 6, n0, .inr (.inr (.inr (.inr f))))) (he1 : st k1 = .inl (tc 6, n1, .inr (.inr (.inr (.inr g))))) (hN0 : N ≤ n0) (hN1 : N ≤ n1) (hN : N < 2 ^ 31)
    (hel : ∀ i, i < N → ∀ y, f i = some y → ∃ (k2 : KN) (fs : List Value), k2 ∈ Ks ∧ y = ad k2 ∧ st k2 = .inr (5, fs)) (w1 : Cond.methodLink own index arraycopyName ∈ AW) (hf : 1 ≤ R.frames) (hlo : (rest.map fun v => v.category).sum + 18 ≤ R.locals) (hdg : decode cc pc = .ok (.invokestatic index, 3))
    (kk : ∀ (H1 : Heap) (locs1 : List Loc), Sx D A ad Ks (sset st k1 (.inl (tc 6, n1, .inr (.inr (.inr (.inr (va_cpy f g 0 0 N))))))) s H1 locs1 → W p l e R s m args below meth c H1 locs1 cells slots Q (F0 m (pc + 3) ls rest)) : W p l e R s m args below meth c H locs cells slots Q (F0 m pc ls (.int (nI N) :: .int (nI 0) :: .ref a1 :: .int (nI 0) :: .ref a0 :: rest)) := by
  subst ha0
  subst ha1
  obtain ⟨⟨hx, hb, hml, hown, hts⟩, -, hK, hNW, -⟩ := X
  obtain ⟨i0, hi0⟩ := List.getElem?_of_mem hk0
  have hj0 := wl_at (ad := ad) (st := st) hi0
  rw [he0] at hj0
  obtain ⟨i1, hi1⟩ := List.getElem?_of_mem hk1
  have hj1 := wl_at (ad := ad) (st := st) hi1
  rw [he1] at hj1
  have z0 : (nI 0).toNatClampNeg = 0 := nI_clamp (by decide)
  have zN : (nI N).toNatClampNeg = N := nI_clamp hN
  refine va_copyM hx hb (hml.trans hsize.symm) hown (hts _ w1) (hts _ q566) (hts _ q565) (hts _ q25) hK h.1.P (h.2.1.Dw st) h.2.2 i0 i1 6 6 hj0 hj1 rfl rfl (nI_pos (by decide)) (nI_pos (by decide)) (nI_pos hN) (by rw [z0, zN]; omega) (by rw [z0, zN]; omega) (fun i hi y hy => ?_) hf (by rw [show nativeFrameWords "java/lang/System" "arraycopy" 5 = 7 from by decide]; omega) hdg (fun H1 locs1 hP _ hS => ?_)
  · rw [zN] at hi
    rw [z0, Nat.zero_add] at hy
    obtain ⟨k2, fs, hm, rfl, he2⟩ := hel i hi y hy
    obtain ⟨i2, hi2⟩ := List.getElem?_of_mem hm
    have hj2 := wl_at (ad := ad) (st := st) hi2
    rw [he2] at hj2
    exact va_rAny hK h.1.P hj2 rfl (vb_asgC (hNW.2.1 _ _ t806))
  · rw [z0, zN] at hP
    exact kk H1 locs1 ⟨Hw.set h.2.1.1 hi1 hP, h.2.1, hS⟩
theorem r_getC (X : Cx p s m args meth c cc own nL D tc dz A) (h : Sx D A ad Ks st s H locs) (hsize : ls.size = nL) {a mi : Nat} {k : KN} (ha : a = ad k) (hk : k ∈ Ks) {x : vp_A} (he : st k = .inl (tc 6, x)) (hM : va_Mi "[Ljava/lang/Object;" mi s) (w1 : Cond.methodLink own index ⟨"java/lang/Object", "getClass", "()Ljava/lang/Class;"⟩ ∈ AW) (hf : 1 ≤ R.frames) (hlo : (rest.map fun v => v.category).sum + 14 ≤ R.locals) (hdg : decode cc pc = .ok (.invokevirtual index, 3))
    (kk : W p l e R s m args below meth c H locs cells slots Q (F0 m (pc + 3) ls (.ref mi :: rest))) : W p l e R s m args below meth c H locs cells slots Q (F0 m pc ls (.ref a :: rest)) := by
  subst ha
  obtain ⟨⟨hx, hb, hml, hown, hts⟩, -, hK, hNW, -⟩ := X
  have h1 : va_at D vwCl (ad k, st k) H := h.1 k hk
  rw [he] at h1
  have h2 : H[ad k]? = some (vp_cell (tc 6) x) := h1
  obtain ⟨-, -, -, -, -, h3⟩ : va_RA s (tc 6) (.object "java/lang/Object") := (hK.2 6 _ rfl).2
  exact va_getC hx hb (hml.trans hsize.symm) hown (hts _ w1) (va_Nw.use rfl (hNW.2.2.1 _ t813)) (hts _ q812) (hts _ q541) (hts _ q554) hM ⟨_, h2, by obtain ⟨n, f | f | f | f | f⟩ := x <;> rfl, by rw [show (vp_cell (tc 6) x).cls = tc 6 from by obtain ⟨n, f | f | f | f | f⟩ := x <;> rfl]; exact h3⟩ hf hlo hdg kk
/-- a name for another -/
theorem Sx.rename {k k2 : KN} (h : Sx D A ad (k2 :: Ks) st s H locs) (hk : k ∈ Ks) (hk2 : k2 ∉ Ks) : Sx D A (sset ad k (ad k2)) Ks (sset st k (st k2)) s H locs := by
  obtain ⟨h1, ⟨h2, h3, h4⟩, h5⟩ := h
  have hin : ∀ q, q ∈ Ks → q ∈ k2 :: Ks := fun q hq => List.mem_cons_of_mem _ hq
  refine ⟨fun q hq => ?_, ⟨(List.nodup_cons.mp h2).2, fun q hq q2 hq2 e => ?_, fun q hq => ?_⟩, h5⟩
  · by_cases hqk : q = k
    · subst hqk
      rw [sset_eq, sset_eq]
      exact h1 k2 List.mem_cons_self
    · rw [sset_ne _ _ hqk, sset_ne _ _ hqk]
      exact h1 q (hin q hq)
  · by_cases hqk : q = k
    · by_cases hqk2 : q2 = k
      · rw [hqk, hqk2]
      · rw [hqk, sset_eq, sset_ne _ _ hqk2] at e
        have := h3 k2 List.mem_cons_self q2 (hin q2 hq2) e
        exact absurd (this ▸ hq2) hk2
    · by_cases hqk2 : q2 = k
      · rw [hqk2, sset_eq, sset_ne _ _ hqk] at e
        have := h3 q (hin q hq) k2 List.mem_cons_self e
        exact absurd (this ▸ hq) hk2
      · rw [sset_ne _ _ hqk, sset_ne _ _ hqk2] at e
        exact h3 q (hin q hq) q2 (hin q2 hq2) e
  · by_cases hqk : q = k
    · rw [hqk, sset_eq]
      exact h4 k2 List.mem_cons_self
    · rw [sset_ne _ _ hqk]
      exact h4 q (hin q hq)
end LROWS
theorem max_n {a b : Nat} (ha : a < 2 ^ 31) (hb : b < 2 ^ 31) : (if nI a < nI b then nI b else nI a) = nI (max a b) := by
  by_cases h : a < b
  · rw [if_pos ((nI_ltI ha hb).mpr h), Nat.max_eq_right (Nat.le_of_lt h)]
  · rw [if_neg (fun q => h ((nI_ltI ha hb).mp q)), Nat.max_eq_left (Nat.le_of_not_lt h)]
theorem min_n {a b : Nat} (ha : a < 2 ^ 31) (hb : b < 2 ^ 31) : (if nI b < nI a then nI b else nI a) = nI (min a b) := by
  by_cases h : b < a
  · rw [if_pos ((nI_ltI hb ha).mpr h), Nat.min_eq_right (Nat.le_of_lt h)]
  · rw [if_neg (fun q => h ((nI_ltI hb ha).mp q)), Nat.min_eq_left (Nat.le_of_not_lt h)]
