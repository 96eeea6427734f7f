/-! Rows over the whole world: one for each instruction that reads or writes it, and for calls -/
section ROWS
variable {p : Program} {l : Launch} {e : Env} {R : Room} {s : State} {m : MethodId} {args : Array Value} {below : List Frame} {meth : Method} {c : Code} {H : Heap} {locs : List Loc} {cells slots : Nat} {Q : State → Prop}
variable {cc : ByteArray} {own : String} {nL : Nat} {D : va_G} {tc : TC} {dz : Nat} {A : Nat → Prop} {ad : KN → Nat} {Ks : List KN} {st : KN → va_E} {pc : Nat} {ls : Array Slot} {rest : List Value}
theorem x_get (X : Cx p s m args meth c cc own nL D tc dz A) (h : Sx D A ad Ks st s H locs) {k : KN} (hk : k ∈ Ks) {ci : Nat} {fs : List Value} {C ref : String} {T : u_T} {N index : Nat} (he : st k = .inr (ci, fs)) (hc : vwCl[ci]? = some (C, T, N)) (hin : ∀ w ∈ u_ws C T N, w ∈ AW) (i : Nat) (hi : i < N) (hq : Cond.fieldLink own index ref (T i).2.1 (T i).2.2.1 ∈ AW) (hsame : (T i).1 = ref) {v : Value} (hv : fs[i]? = some v) (hdg : decode cc pc = .ok (.getfield index, 3))
    (kk : W p l e R s m args below meth c H locs cells slots Q (F0 m (pc + 3) ls (v :: rest))) : W p l e R s m args below meth c H locs cells slots Q (F0 m pc ls (.ref (ad k) :: rest)) := by
  obtain ⟨⟨hx, hb, -, hown, hts⟩, -, hK, -⟩ := X
  obtain ⟨j, hj⟩ := List.getElem?_of_mem hk
  have hj2 := wl_at (ad := ad) (st := st) hj
  rw [he] at hj2
  exact va_get hx hb hts hin hown hK h.1.P j hj2 hc i hi (hts _ hq) (by rw [hsame]; exact fun _ h => h) hv hdg kk
theorem x_put (X : Cx p s m args meth c cc own nL D tc dz A) (h : Sx D A ad Ks st s H locs) {k : KN} (hk : k ∈ Ks) {ci : Nat} {fs : List Value} {C ref : String} {T : u_T} {N index : Nat} (he : st k = .inr (ci, fs)) (hc : vwCl[ci]? = some (C, T, N)) (hin : ∀ w ∈ u_ws C T N, w ∈ AW) {ty0 : Nat → FieldType} (hty : ∀ k, k < N → parseFieldDescriptor (T k).2.2.1 = some (ty0 k)) (hnm : ∀ a, a < N → ∀ b, b < N → a ≠ b → (T a).2.1 ≠ (T b).2.1) (i : Nat) (hi : i < N) (hq : Cond.fieldLink own index ref (T i).2.1 (T i).2.2.1 ∈ AW) (hsame : (T i).1 = ref) (hfin : (T i).2.2.2 = false) {v : Value} (hn : narrow (ty0 i) v = v) (hfit : fits (ty0 i) v = true) (hl : i < fs.length) (hdg : decode cc pc = .ok (.putfield index, 3))
    (kk : ∀ (H1 : Heap) (locs1 : List Loc), Sx D A ad Ks (sset st k (.inr (ci, fs.set i v))) s H1 locs1 → W p l e R s m args below meth c H1 locs1 cells slots Q (F0 m (pc + 3) ls rest)) : W p l e R s m args below meth c H locs cells slots Q (F0 m pc ls (v :: .ref (ad k) :: rest)) := by
  obtain ⟨⟨hx, hb, -, hown, hts⟩, -, hK, -⟩ := X
  obtain ⟨j, hj⟩ := List.getElem?_of_mem hk
  have hj2 := wl_at (ad := ad) (st := st) hj
  rw [he] at hj2
  exact va_put hx hb hts hin ty0 hty hnm hown hK h.1.P (h.2.1.Dw st) h.2.2 j hj2 hc i hi (hts _ hq) (by rw [hsame]; exact fun _ h => h) hfin (hty i hi) hn hfit hl hdg (fun H1 locs1 hP _ hS => kk H1 locs1 ⟨Hw.set h.2.1.1 hj hP, h.2.1, hS⟩)
theorem x_putF (X : Cx p s m args meth c cc own nL D tc dz A) (h : Sx D A ad Ks st s H locs) (hin2 : meth.name = "<init>") {k : KN} (hk : k ∈ Ks) {ci : Nat} {fs : List Value} {C ref : String} {T : u_T} {N index : Nat} (he : st k = .inr (ci, fs)) (hc : vwCl[ci]? = some (C, T, N)) (hin : ∀ w ∈ u_ws C T N, w ∈ AW) {ty0 : Nat → FieldType} (hty : ∀ k, k < N → parseFieldDescriptor (T k).2.2.1 = some (ty0 k)) (hnm : ∀ a, a < N → ∀ b, b < N → a ≠ b → (T a).2.1 ≠ (T b).2.1) (i : Nat) (hi : i < N) (hq : Cond.fieldLink own index ref (T i).2.1 (T i).2.2.1 ∈ AW) (hsame : (T i).1 = ref) (hdecl : (T i).1 = own) (hfin : (T i).2.2.2 = true) {v : Value} (hn : narrow (ty0 i) v = v) (hfit : fits (ty0 i) v = true) (hl : i < fs.length) (hdg : decode cc pc = .ok (.putfield index, 3))
    (kk : ∀ (H1 : Heap) (locs1 : List Loc), Sx D A ad Ks (sset st k (.inr (ci, fs.set i v))) s H1 locs1 → W p l e R s m args below meth c H1 locs1 cells slots Q (F0 m (pc + 3) ls rest)) : W p l e R s m args below meth c H locs cells slots Q (F0 m pc ls (v :: .ref (ad k) :: rest)) := by
  obtain ⟨⟨hx, hb, -, hown, hts⟩, -, hK, -⟩ := X
  obtain ⟨j, hj⟩ := List.getElem?_of_mem hk
  have hj2 := wl_at (ad := ad) (st := st) hj
  rw [he] at hj2
  exact va_putF hx hb hts hin ty0 hty hnm hown hK h.1.P (h.2.1.Dw st) h.2.2 j hj2 hc i hi (hts _ hq) (by rw [hsame]; exact fun _ h => h) hfin hin2 hdecl (hty i hi) hn hfit hl hdg (fun H1 locs1 hP _ hS => kk H1 locs1 ⟨Hw.set h.2.1.1 hj hP, h.2.1, hS⟩)
theorem x_iald (X : Cx p s m args meth c cc own nL D tc dz A) (h : Sx D A ad Ks st s H locs) {k : KN} (hk : k ∈ Ks) {n : Nat} {f : Nat → Int32} (he : st k = .inl (tc 0, n, .inl f)) (j : Nat) (hj : j < n) (hn : n < 2 ^ 31) (hdg : decode cc pc = .ok (.iaload, 1))
    (kk : W p l e R s m args below meth c H locs cells slots Q (F0 m (pc + 1) ls (.int (f j) :: rest))) : W p l e R s m args below meth c H locs cells slots Q (F0 m pc ls (.int (nI j) :: .ref (ad k) :: rest)) := by
  obtain ⟨⟨hx, hb, -, hown, hts⟩, -, hK, -⟩ := X
  obtain ⟨i, hi⟩ := List.getElem?_of_mem hk
  have hi2 := wl_at (ad := ad) (st := st) hi
  rw [he] at hi2
  exact va_iald hx hb hK h.1.P i 0 hi2 rfl (vp_in_nI hj hn) hdg (by rw [nI_clamp (Nat.lt_trans hj hn)]; exact kk)
theorem x_iast (X : Cx p s m args meth c cc own nL D tc dz A) (h : Sx D A ad Ks st s H locs) {k : KN} (hk : k ∈ Ks) {n : Nat} {f : Nat → Int32} (he : st k = .inl (tc 0, n, .inl f)) (j : Nat) {x : Int32} (hj : j < n) (hn : n < 2 ^ 31) (hdg : decode cc pc = .ok (.iastore, 1))
    (kk : ∀ (H1 : Heap) (locs1 : List Loc), Sx D A ad Ks (sset st k (.inl (tc 0, n, .inl (upd f j x)))) s H1 locs1 → W p l e R s m args below meth c H1 locs1 cells slots Q (F0 m (pc + 1) ls rest)) : W p l e R s m args below meth c H locs cells slots Q (F0 m pc ls (.int x :: .int (nI j) :: .ref (ad k) :: rest)) := by
  obtain ⟨⟨hx, hb, -, hown, hts⟩, -, hK, -⟩ := X
  obtain ⟨i, hi⟩ := List.getElem?_of_mem hk
  have hi2 := wl_at (ad := ad) (st := st) hi
  rw [he] at hi2
  refine va_iast hx hb hK h.1.P (h.2.1.Dw st) h.2.2 i 0 hi2 rfl (vp_in_nI hj hn) hdg (fun H1 locs1 hP _ hS => ?_)
  rw [nI_clamp (Nat.lt_trans hj hn)] at hP
  exact kk H1 locs1 ⟨Hw.set h.2.1.1 hi hP, h.2.1, hS⟩
theorem x_lald (X : Cx p s m args meth c cc own nL D tc dz A) (h : Sx D A ad Ks st s H locs) {k : KN} (hk : k ∈ Ks) {n : Nat} {f : Nat → Int64} (he : st k = .inl (tc 2, n, .inr (.inl f))) (j : Nat) (hj : j < n) (hn : n < 2 ^ 31) (hdg : decode cc pc = .ok (.laload, 1))
    (kk : W p l e R s m args below meth c H locs cells slots Q (F0 m (pc + 1) ls (.long (f j) :: rest))) : W p l e R s m args below meth c H locs cells slots Q (F0 m pc ls (.int (nI j) :: .ref (ad k) :: rest)) := by
  obtain ⟨⟨hx, hb, -, hown, hts⟩, -, hK, -⟩ := X
  obtain ⟨i, hi⟩ := List.getElem?_of_mem hk
  have hi2 := wl_at (ad := ad) (st := st) hi
  rw [he] at hi2
  exact va_lald hx hb hK h.1.P i 2 hi2 rfl (vp_in_nI hj hn) hdg (by rw [nI_clamp (Nat.lt_trans hj hn)]; exact kk)
theorem x_last (X : Cx p s m args meth c cc own nL D tc dz A) (h : Sx D A ad Ks st s H locs) {k : KN} (hk : k ∈ Ks) {n : Nat} {f : Nat → Int64} (he : st k = .inl (tc 2, n, .inr (.inl f))) (j : Nat) {x : Int64} (hj : j < n) (hn : n < 2 ^ 31) (hdg : decode cc pc = .ok (.lastore, 1))
    (kk : ∀ (H1 : Heap) (locs1 : List Loc), Sx D A ad Ks (sset st k (.inl (tc 2, n, .inr (.inl (vp_updL f j x))))) s H1 locs1 → W p l e R s m args below meth c H1 locs1 cells slots Q (F0 m (pc + 1) ls rest)) : W p l e R s m args below meth c H locs cells slots Q (F0 m pc ls (.long x :: .int (nI j) :: .ref (ad k) :: rest)) := by
  obtain ⟨⟨hx, hb, -, hown, hts⟩, -, hK, -⟩ := X
  obtain ⟨i, hi⟩ := List.getElem?_of_mem hk
  have hi2 := wl_at (ad := ad) (st := st) hi
  rw [he] at hi2
  refine va_last hx hb hK h.1.P (h.2.1.Dw st) h.2.2 i 2 hi2 rfl (vp_in_nI hj hn) hdg (fun H1 locs1 hP _ hS => ?_)
  rw [nI_clamp (Nat.lt_trans hj hn)] at hP
  exact kk H1 locs1 ⟨Hw.set h.2.1.1 hi hP, h.2.1, hS⟩
/-- a reference out of an array of references -/
theorem x_aald (X : Cx p s m args meth c cc own nL D tc dz A) (h : Sx D A ad Ks st s H locs) {k : KN} (hk : k ∈ Ks) {n : Nat} {f : Nat → Option Nat} (t0 : Nat) {cA : ClassId} {C : String} (ht : (tysOf tc)[t0]? = some (cA, .object C)) (he : st k = .inl (cA, n, .inr (.inr (.inr (.inr f))))) (j : Nat) (hj : j < n) (hn : n < 2 ^ 31) {a : Nat} (ha : f j = some a) (hdg : decode cc pc = .ok (.aaload, 1))
    (kk : W p l e R s m args below meth c H locs cells slots Q (F0 m (pc + 1) ls (.ref a :: rest))) : W p l e R s m args below meth c H locs cells slots Q (F0 m pc ls (.int (nI j) :: .ref (ad k) :: rest)) := by
  obtain ⟨⟨hx, hb, -, hown, hts⟩, -, hK, -⟩ := X
  obtain ⟨i, hi⟩ := List.getElem?_of_mem hk
  have hi2 := wl_at (ad := ad) (st := st) hi
  rw [he] at hi2
  exact va_aldq hx hb hK h.1.P i t0 hi2 ht (vp_in_nI hj hn) hdg (by rw [nI_clamp (Nat.lt_trans hj hn), ha]; exact kk)
theorem x_alen (X : Cx p s m args meth c cc own nL D tc dz A) (h : Sx D A ad Ks st s H locs) {k : KN} (hk : k ∈ Ks) {cA : ClassId} {x : vp_A} (t0 : Nat) {ty : FieldType} (ht : (tysOf tc)[t0]? = some (cA, ty)) (he : st k = .inl (cA, x)) (hdg : decode cc pc = .ok (.arraylength, 1))
    (kk : W p l e R s m args below meth c H locs cells slots Q (F0 m (pc + 1) ls (.int (nI x.1) :: rest))) : W p l e R s m args below meth c H locs cells slots Q (F0 m pc ls (.ref (ad k) :: rest)) := by
  obtain ⟨⟨hx, hb, -, hown, hts⟩, -, hK, -⟩ := X
  obtain ⟨i, hi⟩ := List.getElem?_of_mem hk
  have hi2 := wl_at (ad := ad) (st := st) hi
  rw [he] at hi2
  exact va_alen hx hb hK h.1.P i t0 hi2 ht (v := nI x.1) rfl hdg kk
/-- Math.max, Math.min -/
theorem x_max (X : Cx p s m args meth c cc own nL D tc dz A) (hsize : ls.size = nL) {index : Nat} (hq : Cond.methodLink own index Lib.Math.max.name ∈ AW) (hf : 1 ≤ R.frames) (hl : (rest.map fun v => v.category).sum + 13 ≤ R.locals) (hc : cells ≤ R.cells) (hs : slots ≤ R.slots) {x y : Int32} (hdg : decode cc pc = .ok (.invokestatic index, 3))
    (kk : W p l e R s m args below meth c H locs cells slots Q (F0 m (pc + 3) ls (.int (if x < y then y else x) :: rest))) : W p l e R s m args below meth c H locs cells slots Q (F0 m pc ls (.int y :: .int x :: rest)) := by
  obtain ⟨⟨hx, hb, hml, hown, hts⟩, -⟩ := X
  exact va_mmax hx hb (hml.trans hsize.symm) hown (hts _ hq) (hts _ q531) (hts _ q23) (hts _ q532) hf hl hc hs hdg kk
theorem x_min (X : Cx p s m args meth c cc own nL D tc dz A) (hsize : ls.size = nL) {index : Nat} (hq : Cond.methodLink own index Lib.Math.min.name ∈ AW) (hf : 1 ≤ R.frames) (hl : (rest.map fun v => v.category).sum + 13 ≤ R.locals) (hc : cells ≤ R.cells) (hs : slots ≤ R.slots) {x y : Int32} (hdg : decode cc pc = .ok (.invokestatic index, 3))
    (kk : W p l e R s m args below meth c H locs cells slots Q (F0 m (pc + 3) ls (.int (if y < x then y else x) :: rest))) : W p l e R s m args below meth c H locs cells slots Q (F0 m pc ls (.int y :: .int x :: rest)) := by
  obtain ⟨⟨hx, hb, hml, hown, hts⟩, -⟩ := X
  exact va_mmin hx hb (hml.trans hsize.symm) hown (hts _ hq) (hts _ q562) (hts _ q23) (hts _ q563) hf hl hc hs hdg kk
end ROWS
