/-! The layout: a memory I gives ints to each name; cont says what the cell of a name holds. gm b e: how many Mark objects the list of entry e of book b has, and its array's length. -/
abbrev Mem : Type := KN → Nat → Int32
abbrev GM : Type := Nat → Nat → Nat × Nat
/-- the law's sets: six small numbers in a long -/
def pkS (v : Nat → Int32) : Nat → Int64
  | 0 => 0
  | k + 1 => pkS v k ||| (v k).toInt64 <<< ((nI (6 * k)).toInt64 &&& 63)
def pk (v : Nat → Int32) : Int64 := pkS v 6
def pkA (f : Nat → Int32) (j : Nat) : Int64 := pk (fun k => f (6 * j + k))
def pkB (f : Nat → Int32) (j : Nat) : Int64 := pk (fun k => f (24 * (10 * (j / 8) + j % 8 / 4) + 6 * (j % 4) + k))
def cont (tc : TC) (ad : KN → Nat) (gm : GM) (dz : Nat) (k : KN) (f : Nat → Int32) : va_E := match k with
  | (0, _, _, _) => .inr (7, [.ref (ad (1, 0, 0, 0)), .ref (ad (1, 1, 0, 0)), .ref (ad (20, 0, 0, 0))])
  | (1, b, _, _) => .inr (1, [.int (f 0), .int (f 1), .ref (ad (2, b, 0, 0)), .ref (ad (3, b, 0, 0))])
  | (2, _, _, _) => .inl (tc 0, 6, .inl f)
  | (3, b, _, _) => .inl (tc 4, 10, .inr (.inr (.inr (.inr (fun e => some (ad (4, b, e, 0)))))))
  | (4, b, e, _) => .inr (3, [.int (f 0), .int (f 1), .ref (ad (5, b, e, 0)), .ref (ad (6, b, e, 0)), .ref (ad (7, b, e, 0))])
  | (5, _, _, _) => .inl (tc 0, 3, .inl f)
  | (6, b, e, _) => .inl (tc 5, 6, .inr (.inr (.inr (.inr (fun d => some (ad (9, b, e, d)))))))
  | (7, b, e, _) => .inr (0, [.int (f 0), .ref (if (gm b e).2 = 0 then dz else ad (8, b, e, 0)), .int (nI (gm b e).1)])
  | (8, b, e, _) => .inl (tc 6, (gm b e).2, .inr (.inr (.inr (.inr (fun j => if j < (gm b e).1 then some (ad (16, b, e, j)) else none)))))
  | (9, b, e, d) => .inr (2, [.int (f 0), .int (f 1), .ref (ad (10, b, e, d)), .ref (ad (11, b, e, d)), .ref (ad (12, b, e, d)), .ref (ad (14, b, e, d))])
  | (10, _, _, _) => .inl (tc 0, 24, .inl f)
  | (11, _, _, _) => .inl (tc 0, 24, .inl f)
  | (12, b, e, d) => .inr (6, [.ref (ad (13, b, e, d))])
  | (13, _, _, _) => .inl (tc 0, 24, .inl f)
  | (14, b, e, d) => .inr (6, [.ref (ad (15, b, e, d))])
  | (15, _, _, _) => .inl (tc 0, 24, .inl f)
  | (16, b, e, j) => .inr (5, [.ref (ad (17, b, e, j)), .ref (ad (19, b, e, j))])
  | (17, b, e, j) => .inr (6, [.ref (ad (18, b, e, j))])
  | (18, _, _, _) => .inl (tc 0, 24, .inl f)
  | (19, _, _, _) => .inl (tc 0, 6, .inl f)
  | (20, _, _, _) => .inr (4, [.int (f 0), .ref (ad (21, 0, 0, 0)), .ref (ad (22, 0, 0, 0)), .ref (ad (23, 0, 0, 0)), .ref (ad (24, 0, 0, 0)), .ref (ad (25, 0, 0, 0))])
  | (21, _, _, _) => .inl (tc 0, 512, .inl f)
  | (22, _, _, _) => .inl (tc 0, 512, .inl f)
  | (23, _, _, _) => .inl (tc 0, 512, .inl f)
  | (24, _, _, _) => .inl (tc 0, 512, .inl f)
  | (25, _, _, _) => .inl (tc 0, 512, .inl f)
  | (35, _, _, _) => .inl (tc 2, 48, .inr (.inl (fun j => pkB f j)))
  | (37, _, _, _) => .inl (tc 2, 48, .inr (.inl (fun j => pkB f j)))
  | (39, _, _, _) => .inl (tc 2, 48, .inr (.inl (fun j => pkB f j)))
  | (40, _, _, _) => .inl (tc 0, 10, .inl f)
  | (41, _, _, _) => .inl (tc 2, 40, .inr (.inl (fun j => pkA f j)))
  | (42, _, _, _) => .inl (tc 0, 60, .inl f)
  | (43, _, _, _) => .inl (tc 0, 12, .inl f)
  | (44, _, _, _) => .inl (tc 0, 8, .inl f)
  | (45, _, _, _) => .inl (tc 0, 9, .inl f)
  | _ => .inl (tc 0, 0, .inl (fun _ => 0))
def lay (tc : TC) (ad : KN → Nat) (gm : GM) (dz : Nat) (I : Mem) : KN → va_E := fun k => cont tc ad gm dz k (I k)
/-- the names that live -/
def lvS (gm : GM) (k : KN) : Prop := match k with
  | (0, b, e, d) => b = 0 ∧ e = 0 ∧ d = 0
  | (1, b, e, d) => b < 2 ∧ e = 0 ∧ d = 0
  | (2, b, e, d) => b < 2 ∧ e = 0 ∧ d = 0
  | (3, b, e, d) => b < 2 ∧ e = 0 ∧ d = 0
  | (4, b, e, d) => b < 2 ∧ e < 10 ∧ d = 0
  | (5, b, e, d) => b < 2 ∧ e < 10 ∧ d = 0
  | (6, b, e, d) => b < 2 ∧ e < 10 ∧ d = 0
  | (7, b, e, d) => b < 2 ∧ e < 10 ∧ d = 0
  | (8, b, e, d) => b < 2 ∧ e < 10 ∧ d = 0 ∧ 0 < (gm b e).2
  | (9, b, e, d) => b < 2 ∧ e < 10 ∧ d < 6
  | (10, b, e, d) => b < 2 ∧ e < 10 ∧ d < 6
  | (11, b, e, d) => b < 2 ∧ e < 10 ∧ d < 6
  | (12, b, e, d) => b < 2 ∧ e < 10 ∧ d < 6
  | (13, b, e, d) => b < 2 ∧ e < 10 ∧ d < 6
  | (14, b, e, d) => b < 2 ∧ e < 10 ∧ d < 6
  | (15, b, e, d) => b < 2 ∧ e < 10 ∧ d < 6
  | (16, b, e, j) => b < 2 ∧ e < 10 ∧ j < (gm b e).1
  | (17, b, e, j) => b < 2 ∧ e < 10 ∧ j < (gm b e).1
  | (18, b, e, j) => b < 2 ∧ e < 10 ∧ j < (gm b e).1
  | (19, b, e, j) => b < 2 ∧ e < 10 ∧ j < (gm b e).1
  | (n, b, e, d) => ((20 ≤ n ∧ n ≤ 25) ∨ n = 35 ∨ n = 37 ∨ (39 ≤ n ∧ n ≤ 45)) ∧ b = 0 ∧ e = 0 ∧ d = 0
abbrev LV (gm : GM) (Ks : List KN) : Prop := ∀ k, lvS gm k → k ∈ Ks
theorem lay_set {tc : TC} {ad : KN → Nat} {gm : GM} {dz : Nat} {I : Mem} {k : KN} {f : Nat → Int32} : sset (lay tc ad gm dz I) k (cont tc ad gm dz k f) = lay tc ad gm dz (sset I k f) := by
  funext k'
  by_cases hk : k' = k
  · subst hk
    rw [sset_eq]
    show _ = cont tc ad gm dz k' (sset I k' f k')
    rw [sset_eq]
  · rw [sset_ne _ _ hk]
    show _ = cont tc ad gm dz k' (sset I k f k')
    rw [sset_ne _ _ hk]
    rfl
theorem Sx.layI {D : va_G} {A : Nat → Prop} {tc : TC} {ad : KN → Nat} {gm : GM} {dz : Nat} {Ks : List KN} {I : Mem} {k : KN} {f : Nat → Int32} {e : va_E} {s : State} {H : Heap} {locs : List Loc} (h : Sx D A ad Ks (sset (lay tc ad gm dz I) k e) s H locs) (he : e = cont tc ad gm dz k f) : Sx D A ad Ks (lay tc ad gm dz (sset I k f)) s H locs := by
  subst he
  rw [lay_set] at h
  exact h
theorem inX0 : ∀ w ∈ wsX00, w ∈ AW := by
  intro w hw
  obtain ⟨k, hk, rfl⟩ := List.mem_map.mp hw
  have hk := List.mem_range.mp hk
  rcases (show k = 0 ∨ k = 1 ∨ k = 2 ∨ k = 3 by omega) with rfl | rfl | rfl | rfl
  · exact q154
  · exact q156
  · exact q158
  · exact q160
theorem inX1 : ∀ w ∈ wsX10, w ∈ AW := by
  intro w hw
  obtain ⟨k, hk, rfl⟩ := List.mem_map.mp hw
  have hk := List.mem_range.mp hk
  rcases (show k = 0 ∨ k = 1 ∨ k = 2 ∨ k = 3 ∨ k = 4 ∨ k = 5 by omega) with rfl | rfl | rfl | rfl | rfl | rfl
  · exact q114
  · exact q116
  · exact q118
  · exact q120
  · exact q122
  · exact q124
theorem inX2 : ∀ w ∈ wsX20, w ∈ AW := by
  intro w hw
  obtain ⟨k, hk, rfl⟩ := List.mem_map.mp hw
  have hk := List.mem_range.mp hk
  rcases (show k = 0 ∨ k = 1 ∨ k = 2 ∨ k = 3 ∨ k = 4 by omega) with rfl | rfl | rfl | rfl | rfl
  · exact q137
  · exact q139
  · exact q141
  · exact q143
  · exact q145
theorem inX3 : ∀ w ∈ wsX30, w ∈ AW := by
  intro w hw
  obtain ⟨k, hk, rfl⟩ := List.mem_map.mp hw
  have hk := List.mem_range.mp hk
  rcases (show k = 0 ∨ k = 1 ∨ k = 2 ∨ k = 3 ∨ k = 4 ∨ k = 5 by omega) with rfl | rfl | rfl | rfl | rfl | rfl
  · exact q175
  · exact q177
  · exact q179
  · exact q181
  · exact q183
  · exact q185
theorem inX4 : ∀ w ∈ wsX40, w ∈ AW := by
  intro w hw
  obtain ⟨k, hk, rfl⟩ := List.mem_map.mp hw
  have hk := List.mem_range.mp hk
  rcases (show k = 0 ∨ k = 1 by omega) with rfl | rfl
  · exact q506
  · exact q508
theorem inX5 : ∀ w ∈ wsX50, w ∈ AW := by
  intro w hw
  obtain ⟨k, hk, rfl⟩ := List.mem_map.mp hw
  have hk := List.mem_range.mp hk
  rcases (show k = 0 by omega) with rfl
  · exact q94
theorem inX6 : ∀ w ∈ wsX60, w ∈ AW := by
  intro w hw
  obtain ⟨k, hk, rfl⟩ := List.mem_map.mp hw
  have hk := List.mem_range.mp hk
  rcases (show k = 0 ∨ k = 1 ∨ k = 2 by omega) with rfl | rfl | rfl
  · exact q191
  · exact q193
  · exact q195
theorem inJx4a65c : ∀ w ∈ wsJx4a65c0, w ∈ AW := by
  intro w hw
  obtain ⟨k, hk, rfl⟩ := List.mem_map.mp hw
  have hk := List.mem_range.mp hk
  rcases (show k = 0 ∨ k = 1 ∨ k = 2 by omega) with rfl | rfl | rfl
  · exact q75
  · exact q71
  · exact q73
section FIELDS
variable {p : Program} {l : Launch} {e : Env} {R : Room} {s : State} {m : MethodId} {args : Array Value} {below : List Frame} {meth : Method} {c : Code} {H : Heap} {locs : List Loc} {cells slots : Nat} {Q : State → Prop}
variable {cc : ByteArray} {own : String} {nL : Nat} {D : va_G} {tc : TC} {dz : Nat} {A : Nat → Prop} {ad : KN → Nat} {Ks : List KN} {gm : GM} {I : Mem} {pc : Nat} {ls : Array Slot} {rest : List Value} {b z1 z2 z3 index : Nat}
theorem y_ald (X : Cx p s m args meth c cc own nL D tc dz A) (h : Sx D A ad Ks (lay tc ad gm dz I) s H locs) {k : KN} {n : Nat} (he : ∀ f, cont tc ad gm dz k f = .inl (tc 0, n, .inl f)) (hn : n < 2 ^ 31) (hk : k ∈ Ks) {j : Nat} (hj : j < n) {v : Int32} (hv : I k j = v) (hdg : decode cc pc = .ok (.iaload, 1))
    (kk : W p l e R s m args below meth c H locs cells slots Q (F0 m (pc + 1) ls (.int v :: rest))) : W p l e R s m args below meth c H locs cells slots Q (F0 m pc ls (.int (nI j) :: .ref (ad k) :: rest)) := by
  subst hv
  exact x_iald X h hk (f := I k) (he (I k)) j hj hn hdg kk
theorem y_ast (X : Cx p s m args meth c cc own nL D tc dz A) (h : Sx D A ad Ks (lay tc ad gm dz I) s H locs) {k : KN} {n : Nat} (he : ∀ f, cont tc ad gm dz k f = .inl (tc 0, n, .inl f)) (hn : n < 2 ^ 31) (hk : k ∈ Ks) {j : Nat} (hj : j < n) {v : Int32} (hdg : decode cc pc = .ok (.iastore, 1))
    (kk : ∀ (H1 : Heap) (locs1 : List Loc), Sx D A ad Ks (lay tc ad gm dz (sset I k (upd (I k) j v))) s H1 locs1 → W p l e R s m args below meth c H1 locs1 cells slots Q (F0 m (pc + 1) ls rest)) : W p l e R s m args below meth c H locs cells slots Q (F0 m pc ls (.int v :: .int (nI j) :: .ref (ad k) :: rest)) := by
  exact x_iast X h hk (f := I k) (he (I k)) j hj hn hdg (fun H1 locs1 h1 => kk H1 locs1 (h1.layI (he _).symm))
/-- loops: σ what changes from round to round -/
theorem y_loop {σ : Type} (stF : σ → KN → va_E) (lvF : σ → List (Nat × Value)) (skF : σ → List Value) (ok : σ → Prop) (μ : σ → Nat)
    (step : ∀ x, ok x → (∀ x', ok x' → μ x' < μ x → ∀ (H : Heap) (locs : List Loc) (ls : Array Slot), Sx D A ad Ks (stF x') s H locs → lv_has ls nL (lvF x') → W p l e R s m args below meth c H locs cells slots Q (F0 m pc ls (skF x'))) → ∀ (H : Heap) (locs : List Loc) (ls : Array Slot), Sx D A ad Ks (stF x) s H locs → lv_has ls nL (lvF x) → W p l e R s m args below meth c H locs cells slots Q (F0 m pc ls (skF x)))
    (x : σ) (h0 : ok x) (h : Sx D A ad Ks (stF x) s H locs) (hl : lv_has ls nL (lvF x)) {st0 : List Value} (hsk : st0 = skF x) : W p l e R s m args below meth c H locs cells slots Q (F0 m pc ls st0) := by
  subst hsk
  have key : ∀ n x, μ x < n → ok x → ∀ (H : Heap) (locs : List Loc) (ls : Array Slot), Sx D A ad Ks (stF x) s H locs → lv_has ls nL (lvF x) → W p l e R s m args below meth c H locs cells slots Q (F0 m pc ls (skF x)) := by
    intro n
    induction n with
    | zero => intro x hx; omega
    | succ n ih => intro x hx hok; exact step x hok (fun x' hok' hlt => ih x' (by omega) hok')
  exact key (μ x + 1) x (Nat.lt_succ_self _) h0 H locs ls h hl
/-- roads that join: σ what differs -/
theorem y_join {σ : Type} (pc1 : Nat) (stF : σ → KN → va_E) (lvF : σ → List (Nat × Value)) (skF : σ → List Value) (ok : σ → Prop) {g : JFrame}
    (k1 : (∀ x, ok x → ∀ (H : Heap) (locs : List Loc) (ls : Array Slot), Sx D A ad Ks (stF x) s H locs → lv_has ls nL (lvF x) → W p l e R s m args below meth c H locs cells slots Q (F0 m pc1 ls (skF x))) → W p l e R s m args below meth c H locs cells slots Q g)
    (k2 : ∀ x, ok x → ∀ (H : Heap) (locs : List Loc) (ls : Array Slot), Sx D A ad Ks (stF x) s H locs → lv_has ls nL (lvF x) → W p l e R s m args below meth c H locs cells slots Q (F0 m pc1 ls (skF x))) : W p l e R s m args below meth c H locs cells slots Q g := k1 k2
theorem gf_Books_month (X : Cx p s m args meth c cc own nL D tc dz A) (h : Sx D A ad Ks (lay tc ad gm dz I) s H locs) (hk : (1, b, z2, z3) ∈ Ks) (hq : Cond.fieldLink own index RX0 (TX0 0).2.1 (TX0 0).2.2.1 ∈ AW) {v : Int32} (hv : I (1, b, z2, z3) 0 = v) (hdg : decode cc pc = .ok (.getfield index, 3)) (kk : W p l e R s m args below meth c H locs cells slots Q (F0 m (pc + 3) ls (.int v :: rest))) : W p l e R s m args below meth c H locs cells slots Q (F0 m pc ls (.ref (ad (1, b, z2, z3)) :: rest)) := by
  subst hv
  exact x_get X h hk rfl rfl inX0 0 (by decide) hq rfl rfl hdg kk
theorem pf_Books_month (X : Cx p s m args meth c cc own nL D tc dz A) (h : Sx D A ad Ks (lay tc ad gm dz I) s H locs) (hk : (1, b, z2, z3) ∈ Ks) (hq : Cond.fieldLink own index RX0 (TX0 0).2.1 (TX0 0).2.2.1 ∈ AW) {v : Int32} (hdg : decode cc pc = .ok (.putfield index, 3)) (kk : ∀ (H1 : Heap) (locs1 : List Loc), Sx D A ad Ks (lay tc ad gm dz (sset I (1, b, z2, z3) (upd (I (1, b, z2, z3)) 0 v))) s H1 locs1 → W p l e R s m args below meth c H1 locs1 cells slots Q (F0 m (pc + 3) ls rest)) : W p l e R s m args below meth c H locs cells slots Q (F0 m pc ls (.int v :: .ref (ad (1, b, z2, z3)) :: rest)) :=
  x_put X h hk rfl rfl inX0 tyX0_ok nmX0 0 (by decide) hq rfl rfl rfl rfl (Nat.le_of_ble_eq_true rfl) hdg (fun H1 locs1 h1 => kk H1 locs1 (h1.layI rfl))
theorem gf_Books_entryCount (X : Cx p s m args meth c cc own nL D tc dz A) (h : Sx D A ad Ks (lay tc ad gm dz I) s H locs) (hk : (1, b, z2, z3) ∈ Ks) (hq : Cond.fieldLink own index RX0 (TX0 1).2.1 (TX0 1).2.2.1 ∈ AW) {v : Int32} (hv : I (1, b, z2, z3) 1 = v) (hdg : decode cc pc = .ok (.getfield index, 3)) (kk : W p l e R s m args below meth c H locs cells slots Q (F0 m (pc + 3) ls (.int v :: rest))) : W p l e R s m args below meth c H locs cells slots Q (F0 m pc ls (.ref (ad (1, b, z2, z3)) :: rest)) := by
  subst hv
  exact x_get X h hk rfl rfl inX0 1 (by decide) hq rfl rfl hdg kk
theorem pf_Books_entryCount (X : Cx p s m args meth c cc own nL D tc dz A) (h : Sx D A ad Ks (lay tc ad gm dz I) s H locs) (hk : (1, b, z2, z3) ∈ Ks) (hq : Cond.fieldLink own index RX0 (TX0 1).2.1 (TX0 1).2.2.1 ∈ AW) {v : Int32} (hdg : decode cc pc = .ok (.putfield index, 3)) (kk : ∀ (H1 : Heap) (locs1 : List Loc), Sx D A ad Ks (lay tc ad gm dz (sset I (1, b, z2, z3) (upd (I (1, b, z2, z3)) 1 v))) s H1 locs1 → W p l e R s m args below meth c H1 locs1 cells slots Q (F0 m (pc + 3) ls rest)) : W p l e R s m args below meth c H locs cells slots Q (F0 m pc ls (.int v :: .ref (ad (1, b, z2, z3)) :: rest)) :=
  x_put X h hk rfl rfl inX0 tyX0_ok nmX0 1 (by decide) hq rfl rfl rfl rfl (Nat.le_of_ble_eq_true rfl) hdg (fun H1 locs1 h1 => kk H1 locs1 (h1.layI rfl))
theorem gf_Books_actCounts (X : Cx p s m args meth c cc own nL D tc dz A) (h : Sx D A ad Ks (lay tc ad gm dz I) s H locs) (hk : (1, b, z2, z3) ∈ Ks) (hq : Cond.fieldLink own index RX0 (TX0 2).2.1 (TX0 2).2.2.1 ∈ AW) (hdg : decode cc pc = .ok (.getfield index, 3)) (kk : W p l e R s m args below meth c H locs cells slots Q (F0 m (pc + 3) ls (.ref (ad (2, b, 0, 0)) :: rest))) : W p l e R s m args below meth c H locs cells slots Q (F0 m pc ls (.ref (ad (1, b, z2, z3)) :: rest)) :=
  x_get X h hk rfl rfl inX0 2 (by decide) hq rfl rfl hdg kk
theorem gf_Books_entries (X : Cx p s m args meth c cc own nL D tc dz A) (h : Sx D A ad Ks (lay tc ad gm dz I) s H locs) (hk : (1, b, z2, z3) ∈ Ks) (hq : Cond.fieldLink own index RX0 (TX0 3).2.1 (TX0 3).2.2.1 ∈ AW) (hdg : decode cc pc = .ok (.getfield index, 3)) (kk : W p l e R s m args below meth c H locs cells slots Q (F0 m (pc + 3) ls (.ref (ad (3, b, 0, 0)) :: rest))) : W p l e R s m args below meth c H locs cells slots Q (F0 m pc ls (.ref (ad (1, b, z2, z3)) :: rest)) :=
  x_get X h hk rfl rfl inX0 3 (by decide) hq rfl rfl hdg kk
theorem gf_Copy_known (X : Cx p s m args meth c cc own nL D tc dz A) (h : Sx D A ad Ks (lay tc ad gm dz I) s H locs) (hk : (9, b, z2, z3) ∈ Ks) (hq : Cond.fieldLink own index RX1 (TX1 0).2.1 (TX1 0).2.2.1 ∈ AW) {v : Int32} (hv : I (9, b, z2, z3) 0 = v) (hdg : decode cc pc = .ok (.getfield index, 3)) (kk : W p l e R s m args below meth c H locs cells slots Q (F0 m (pc + 3) ls (.int v :: rest))) : W p l e R s m args below meth c H locs cells slots Q (F0 m pc ls (.ref (ad (9, b, z2, z3)) :: rest)) := by
  subst hv
  exact x_get X h hk rfl rfl inX1 0 (by decide) hq rfl rfl hdg kk
theorem pf_Copy_known (X : Cx p s m args meth c cc own nL D tc dz A) (h : Sx D A ad Ks (lay tc ad gm dz I) s H locs) (hk : (9, b, z2, z3) ∈ Ks) (hq : Cond.fieldLink own index RX1 (TX1 0).2.1 (TX1 0).2.2.1 ∈ AW) {v : Int32} (hv : narrow .boolean (.int v) = .int v) (hv2 : fits .boolean (.int v) = true) (hdg : decode cc pc = .ok (.putfield index, 3)) (kk : ∀ (H1 : Heap) (locs1 : List Loc), Sx D A ad Ks (lay tc ad gm dz (sset I (9, b, z2, z3) (upd (I (9, b, z2, z3)) 0 v))) s H1 locs1 → W p l e R s m args below meth c H1 locs1 cells slots Q (F0 m (pc + 3) ls rest)) : W p l e R s m args below meth c H locs cells slots Q (F0 m pc ls (.int v :: .ref (ad (9, b, z2, z3)) :: rest)) :=
  x_put X h hk rfl rfl inX1 tyX1_ok nmX1 0 (by decide) hq rfl rfl hv hv2 (Nat.le_of_ble_eq_true rfl) hdg (fun H1 locs1 h1 => kk H1 locs1 (h1.layI rfl))
theorem gf_Copy_noted (X : Cx p s m args meth c cc own nL D tc dz A) (h : Sx D A ad Ks (lay tc ad gm dz I) s H locs) (hk : (9, b, z2, z3) ∈ Ks) (hq : Cond.fieldLink own index RX1 (TX1 1).2.1 (TX1 1).2.2.1 ∈ AW) {v : Int32} (hv : I (9, b, z2, z3) 1 = v) (hdg : decode cc pc = .ok (.getfield index, 3)) (kk : W p l e R s m args below meth c H locs cells slots Q (F0 m (pc + 3) ls (.int v :: rest))) : W p l e R s m args below meth c H locs cells slots Q (F0 m pc ls (.ref (ad (9, b, z2, z3)) :: rest)) := by
  subst hv
  exact x_get X h hk rfl rfl inX1 1 (by decide) hq rfl rfl hdg kk
theorem pf_Copy_noted (X : Cx p s m args meth c cc own nL D tc dz A) (h : Sx D A ad Ks (lay tc ad gm dz I) s H locs) (hk : (9, b, z2, z3) ∈ Ks) (hq : Cond.fieldLink own index RX1 (TX1 1).2.1 (TX1 1).2.2.1 ∈ AW) {v : Int32} (hv : narrow .boolean (.int v) = .int v) (hv2 : fits .boolean (.int v) = true) (hdg : decode cc pc = .ok (.putfield index, 3)) (kk : ∀ (H1 : Heap) (locs1 : List Loc), Sx D A ad Ks (lay tc ad gm dz (sset I (9, b, z2, z3) (upd (I (9, b, z2, z3)) 1 v))) s H1 locs1 → W p l e R s m args below meth c H1 locs1 cells slots Q (F0 m (pc + 3) ls rest)) : W p l e R s m args below meth c H locs cells slots Q (F0 m pc ls (.int v :: .ref (ad (9, b, z2, z3)) :: rest)) :=
  x_put X h hk rfl rfl inX1 tyX1_ok nmX1 1 (by decide) hq rfl rfl hv hv2 (Nat.le_of_ble_eq_true rfl) hdg (fun H1 locs1 h1 => kk H1 locs1 (h1.layI rfl))
theorem gf_Copy_acts (X : Cx p s m args meth c cc own nL D tc dz A) (h : Sx D A ad Ks (lay tc ad gm dz I) s H locs) (hk : (9, b, z2, z3) ∈ Ks) (hq : Cond.fieldLink own index RX1 (TX1 2).2.1 (TX1 2).2.2.1 ∈ AW) (hdg : decode cc pc = .ok (.getfield index, 3)) (kk : W p l e R s m args below meth c H locs cells slots Q (F0 m (pc + 3) ls (.ref (ad (10, b, z2, z3)) :: rest))) : W p l e R s m args below meth c H locs cells slots Q (F0 m pc ls (.ref (ad (9, b, z2, z3)) :: rest)) :=
  x_get X h hk rfl rfl inX1 2 (by decide) hq rfl rfl hdg kk
theorem gf_Copy_told (X : Cx p s m args meth c cc own nL D tc dz A) (h : Sx D A ad Ks (lay tc ad gm dz I) s H locs) (hk : (9, b, z2, z3) ∈ Ks) (hq : Cond.fieldLink own index RX1 (TX1 3).2.1 (TX1 3).2.2.1 ∈ AW) (hdg : decode cc pc = .ok (.getfield index, 3)) (kk : W p l e R s m args below meth c H locs cells slots Q (F0 m (pc + 3) ls (.ref (ad (11, b, z2, z3)) :: rest))) : W p l e R s m args below meth c H locs cells slots Q (F0 m pc ls (.ref (ad (9, b, z2, z3)) :: rest)) :=
  x_get X h hk rfl rfl inX1 3 (by decide) hq rfl rfl hdg kk
theorem gf_Copy_seen (X : Cx p s m args meth c cc own nL D tc dz A) (h : Sx D A ad Ks (lay tc ad gm dz I) s H locs) (hk : (9, b, z2, z3) ∈ Ks) (hq : Cond.fieldLink own index RX1 (TX1 4).2.1 (TX1 4).2.2.1 ∈ AW) (hdg : decode cc pc = .ok (.getfield index, 3)) (kk : W p l e R s m args below meth c H locs cells slots Q (F0 m (pc + 3) ls (.ref (ad (12, b, z2, z3)) :: rest))) : W p l e R s m args below meth c H locs cells slots Q (F0 m pc ls (.ref (ad (9, b, z2, z3)) :: rest)) :=
  x_get X h hk rfl rfl inX1 4 (by decide) hq rfl rfl hdg kk
theorem gf_Copy_note (X : Cx p s m args meth c cc own nL D tc dz A) (h : Sx D A ad Ks (lay tc ad gm dz I) s H locs) (hk : (9, b, z2, z3) ∈ Ks) (hq : Cond.fieldLink own index RX1 (TX1 5).2.1 (TX1 5).2.2.1 ∈ AW) (hdg : decode cc pc = .ok (.getfield index, 3)) (kk : W p l e R s m args below meth c H locs cells slots Q (F0 m (pc + 3) ls (.ref (ad (14, b, z2, z3)) :: rest))) : W p l e R s m args below meth c H locs cells slots Q (F0 m pc ls (.ref (ad (9, b, z2, z3)) :: rest)) :=
  x_get X h hk rfl rfl inX1 5 (by decide) hq rfl rfl hdg kk
theorem gf_Entry_owner (X : Cx p s m args meth c cc own nL D tc dz A) (h : Sx D A ad Ks (lay tc ad gm dz I) s H locs) (hk : (4, b, z2, z3) ∈ Ks) (hq : Cond.fieldLink own index RX2 (TX2 0).2.1 (TX2 0).2.2.1 ∈ AW) {v : Int32} (hv : I (4, b, z2, z3) 0 = v) (hdg : decode cc pc = .ok (.getfield index, 3)) (kk : W p l e R s m args below meth c H locs cells slots Q (F0 m (pc + 3) ls (.int v :: rest))) : W p l e R s m args below meth c H locs cells slots Q (F0 m pc ls (.ref (ad (4, b, z2, z3)) :: rest)) := by
  subst hv
  exact x_get X h hk rfl rfl inX2 0 (by decide) hq rfl rfl hdg kk
theorem pf_Entry_owner (X : Cx p s m args meth c cc own nL D tc dz A) (h : Sx D A ad Ks (lay tc ad gm dz I) s H locs) (hk : (4, b, z2, z3) ∈ Ks) (hq : Cond.fieldLink own index RX2 (TX2 0).2.1 (TX2 0).2.2.1 ∈ AW) {v : Int32} (hdg : decode cc pc = .ok (.putfield index, 3)) (kk : ∀ (H1 : Heap) (locs1 : List Loc), Sx D A ad Ks (lay tc ad gm dz (sset I (4, b, z2, z3) (upd (I (4, b, z2, z3)) 0 v))) s H1 locs1 → W p l e R s m args below meth c H1 locs1 cells slots Q (F0 m (pc + 3) ls rest)) : W p l e R s m args below meth c H locs cells slots Q (F0 m pc ls (.int v :: .ref (ad (4, b, z2, z3)) :: rest)) :=
  x_put X h hk rfl rfl inX2 tyX2_ok nmX2 0 (by decide) hq rfl rfl rfl rfl (Nat.le_of_ble_eq_true rfl) hdg (fun H1 locs1 h1 => kk H1 locs1 (h1.layI rfl))
theorem gf_Entry_markCount (X : Cx p s m args meth c cc own nL D tc dz A) (h : Sx D A ad Ks (lay tc ad gm dz I) s H locs) (hk : (4, b, z2, z3) ∈ Ks) (hq : Cond.fieldLink own index RX2 (TX2 1).2.1 (TX2 1).2.2.1 ∈ AW) {v : Int32} (hv : I (4, b, z2, z3) 1 = v) (hdg : decode cc pc = .ok (.getfield index, 3)) (kk : W p l e R s m args below meth c H locs cells slots Q (F0 m (pc + 3) ls (.int v :: rest))) : W p l e R s m args below meth c H locs cells slots Q (F0 m pc ls (.ref (ad (4, b, z2, z3)) :: rest)) := by
  subst hv
  exact x_get X h hk rfl rfl inX2 1 (by decide) hq rfl rfl hdg kk
theorem pf_Entry_markCount (X : Cx p s m args meth c cc own nL D tc dz A) (h : Sx D A ad Ks (lay tc ad gm dz I) s H locs) (hk : (4, b, z2, z3) ∈ Ks) (hq : Cond.fieldLink own index RX2 (TX2 1).2.1 (TX2 1).2.2.1 ∈ AW) {v : Int32} (hdg : decode cc pc = .ok (.putfield index, 3)) (kk : ∀ (H1 : Heap) (locs1 : List Loc), Sx D A ad Ks (lay tc ad gm dz (sset I (4, b, z2, z3) (upd (I (4, b, z2, z3)) 1 v))) s H1 locs1 → W p l e R s m args below meth c H1 locs1 cells slots Q (F0 m (pc + 3) ls rest)) : W p l e R s m args below meth c H locs cells slots Q (F0 m pc ls (.int v :: .ref (ad (4, b, z2, z3)) :: rest)) :=
  x_put X h hk rfl rfl inX2 tyX2_ok nmX2 1 (by decide) hq rfl rfl rfl rfl (Nat.le_of_ble_eq_true rfl) hdg (fun H1 locs1 h1 => kk H1 locs1 (h1.layI rfl))
theorem gf_Entry_shared (X : Cx p s m args meth c cc own nL D tc dz A) (h : Sx D A ad Ks (lay tc ad gm dz I) s H locs) (hk : (4, b, z2, z3) ∈ Ks) (hq : Cond.fieldLink own index RX2 (TX2 2).2.1 (TX2 2).2.2.1 ∈ AW) (hdg : decode cc pc = .ok (.getfield index, 3)) (kk : W p l e R s m args below meth c H locs cells slots Q (F0 m (pc + 3) ls (.ref (ad (5, b, z2, 0)) :: rest))) : W p l e R s m args below meth c H locs cells slots Q (F0 m pc ls (.ref (ad (4, b, z2, z3)) :: rest)) :=
  x_get X h hk rfl rfl inX2 2 (by decide) hq rfl rfl hdg kk
theorem gf_Entry_copies (X : Cx p s m args meth c cc own nL D tc dz A) (h : Sx D A ad Ks (lay tc ad gm dz I) s H locs) (hk : (4, b, z2, z3) ∈ Ks) (hq : Cond.fieldLink own index RX2 (TX2 3).2.1 (TX2 3).2.2.1 ∈ AW) (hdg : decode cc pc = .ok (.getfield index, 3)) (kk : W p l e R s m args below meth c H locs cells slots Q (F0 m (pc + 3) ls (.ref (ad (6, b, z2, 0)) :: rest))) : W p l e R s m args below meth c H locs cells slots Q (F0 m pc ls (.ref (ad (4, b, z2, z3)) :: rest)) :=
  x_get X h hk rfl rfl inX2 3 (by decide) hq rfl rfl hdg kk
theorem gf_Entry_marks (X : Cx p s m args meth c cc own nL D tc dz A) (h : Sx D A ad Ks (lay tc ad gm dz I) s H locs) (hk : (4, b, z2, z3) ∈ Ks) (hq : Cond.fieldLink own index RX2 (TX2 4).2.1 (TX2 4).2.2.1 ∈ AW) (hdg : decode cc pc = .ok (.getfield index, 3)) (kk : W p l e R s m args below meth c H locs cells slots Q (F0 m (pc + 3) ls (.ref (ad (7, b, z2, 0)) :: rest))) : W p l e R s m args below meth c H locs cells slots Q (F0 m pc ls (.ref (ad (4, b, z2, z3)) :: rest)) :=
  x_get X h hk rfl rfl inX2 4 (by decide) hq rfl rfl hdg kk
theorem gf_Journal_size (X : Cx p s m args meth c cc own nL D tc dz A) (h : Sx D A ad Ks (lay tc ad gm dz I) s H locs) (hk : (20, b, z2, z3) ∈ Ks) (hq : Cond.fieldLink own index RX3 (TX3 0).2.1 (TX3 0).2.2.1 ∈ AW) {v : Int32} (hv : I (20, b, z2, z3) 0 = v) (hdg : decode cc pc = .ok (.getfield index, 3)) (kk : W p l e R s m args below meth c H locs cells slots Q (F0 m (pc + 3) ls (.int v :: rest))) : W p l e R s m args below meth c H locs cells slots Q (F0 m pc ls (.ref (ad (20, b, z2, z3)) :: rest)) := by
  subst hv
  exact x_get X h hk rfl rfl inX3 0 (by decide) hq rfl rfl hdg kk
theorem pf_Journal_size (X : Cx p s m args meth c cc own nL D tc dz A) (h : Sx D A ad Ks (lay tc ad gm dz I) s H locs) (hk : (20, b, z2, z3) ∈ Ks) (hq : Cond.fieldLink own index RX3 (TX3 0).2.1 (TX3 0).2.2.1 ∈ AW) {v : Int32} (hdg : decode cc pc = .ok (.putfield index, 3)) (kk : ∀ (H1 : Heap) (locs1 : List Loc), Sx D A ad Ks (lay tc ad gm dz (sset I (20, b, z2, z3) (upd (I (20, b, z2, z3)) 0 v))) s H1 locs1 → W p l e R s m args below meth c H1 locs1 cells slots Q (F0 m (pc + 3) ls rest)) : W p l e R s m args below meth c H locs cells slots Q (F0 m pc ls (.int v :: .ref (ad (20, b, z2, z3)) :: rest)) :=
  x_put X h hk rfl rfl inX3 tyX3_ok nmX3 0 (by decide) hq rfl rfl rfl rfl (Nat.le_of_ble_eq_true rfl) hdg (fun H1 locs1 h1 => kk H1 locs1 (h1.layI rfl))
theorem gf_Journal_kinds (X : Cx p s m args meth c cc own nL D tc dz A) (h : Sx D A ad Ks (lay tc ad gm dz I) s H locs) (hk : (20, b, z2, z3) ∈ Ks) (hq : Cond.fieldLink own index RX3 (TX3 1).2.1 (TX3 1).2.2.1 ∈ AW) (hdg : decode cc pc = .ok (.getfield index, 3)) (kk : W p l e R s m args below meth c H locs cells slots Q (F0 m (pc + 3) ls (.ref (ad (21, 0, 0, 0)) :: rest))) : W p l e R s m args below meth c H locs cells slots Q (F0 m pc ls (.ref (ad (20, b, z2, z3)) :: rest)) :=
  x_get X h hk rfl rfl inX3 1 (by decide) hq rfl rfl hdg kk
theorem gf_Journal_firsts (X : Cx p s m args meth c cc own nL D tc dz A) (h : Sx D A ad Ks (lay tc ad gm dz I) s H locs) (hk : (20, b, z2, z3) ∈ Ks) (hq : Cond.fieldLink own index RX3 (TX3 2).2.1 (TX3 2).2.2.1 ∈ AW) (hdg : decode cc pc = .ok (.getfield index, 3)) (kk : W p l e R s m args below meth c H locs cells slots Q (F0 m (pc + 3) ls (.ref (ad (22, 0, 0, 0)) :: rest))) : W p l e R s m args below meth c H locs cells slots Q (F0 m pc ls (.ref (ad (20, b, z2, z3)) :: rest)) :=
  x_get X h hk rfl rfl inX3 2 (by decide) hq rfl rfl hdg kk
theorem gf_Journal_seconds (X : Cx p s m args meth c cc own nL D tc dz A) (h : Sx D A ad Ks (lay tc ad gm dz I) s H locs) (hk : (20, b, z2, z3) ∈ Ks) (hq : Cond.fieldLink own index RX3 (TX3 3).2.1 (TX3 3).2.2.1 ∈ AW) (hdg : decode cc pc = .ok (.getfield index, 3)) (kk : W p l e R s m args below meth c H locs cells slots Q (F0 m (pc + 3) ls (.ref (ad (23, 0, 0, 0)) :: rest))) : W p l e R s m args below meth c H locs cells slots Q (F0 m pc ls (.ref (ad (20, b, z2, z3)) :: rest)) :=
  x_get X h hk rfl rfl inX3 3 (by decide) hq rfl rfl hdg kk
theorem gf_Journal_thirds (X : Cx p s m args meth c cc own nL D tc dz A) (h : Sx D A ad Ks (lay tc ad gm dz I) s H locs) (hk : (20, b, z2, z3) ∈ Ks) (hq : Cond.fieldLink own index RX3 (TX3 4).2.1 (TX3 4).2.2.1 ∈ AW) (hdg : decode cc pc = .ok (.getfield index, 3)) (kk : W p l e R s m args below meth c H locs cells slots Q (F0 m (pc + 3) ls (.ref (ad (24, 0, 0, 0)) :: rest))) : W p l e R s m args below meth c H locs cells slots Q (F0 m pc ls (.ref (ad (20, b, z2, z3)) :: rest)) :=
  x_get X h hk rfl rfl inX3 4 (by decide) hq rfl rfl hdg kk
theorem gf_Journal_fourths (X : Cx p s m args meth c cc own nL D tc dz A) (h : Sx D A ad Ks (lay tc ad gm dz I) s H locs) (hk : (20, b, z2, z3) ∈ Ks) (hq : Cond.fieldLink own index RX3 (TX3 5).2.1 (TX3 5).2.2.1 ∈ AW) (hdg : decode cc pc = .ok (.getfield index, 3)) (kk : W p l e R s m args below meth c H locs cells slots Q (F0 m (pc + 3) ls (.ref (ad (25, 0, 0, 0)) :: rest))) : W p l e R s m args below meth c H locs cells slots Q (F0 m pc ls (.ref (ad (20, b, z2, z3)) :: rest)) :=
  x_get X h hk rfl rfl inX3 5 (by decide) hq rfl rfl hdg kk
theorem gf_Mark_seen (X : Cx p s m args meth c cc own nL D tc dz A) (h : Sx D A ad Ks (lay tc ad gm dz I) s H locs) (hk : (16, b, z2, z3) ∈ Ks) (hq : Cond.fieldLink own index RX4 (TX4 0).2.1 (TX4 0).2.2.1 ∈ AW) (hdg : decode cc pc = .ok (.getfield index, 3)) (kk : W p l e R s m args below meth c H locs cells slots Q (F0 m (pc + 3) ls (.ref (ad (17, b, z2, z3)) :: rest))) : W p l e R s m args below meth c H locs cells slots Q (F0 m pc ls (.ref (ad (16, b, z2, z3)) :: rest)) :=
  x_get X h hk rfl rfl inX4 0 (by decide) hq rfl rfl hdg kk
theorem gf_Mark_knownSince (X : Cx p s m args meth c cc own nL D tc dz A) (h : Sx D A ad Ks (lay tc ad gm dz I) s H locs) (hk : (16, b, z2, z3) ∈ Ks) (hq : Cond.fieldLink own index RX4 (TX4 1).2.1 (TX4 1).2.2.1 ∈ AW) (hdg : decode cc pc = .ok (.getfield index, 3)) (kk : W p l e R s m args below meth c H locs cells slots Q (F0 m (pc + 3) ls (.ref (ad (19, b, z2, z3)) :: rest))) : W p l e R s m args below meth c H locs cells slots Q (F0 m pc ls (.ref (ad (16, b, z2, z3)) :: rest)) :=
  x_get X h hk rfl rfl inX4 1 (by decide) hq rfl rfl hdg kk
theorem gf_BraidBook_books (X : Cx p s m args meth c cc own nL D tc dz A) (h : Sx D A ad Ks (lay tc ad gm dz I) s H locs) (hk : (0, b, z2, z3) ∈ Ks) (hq : Cond.fieldLink own index RX6 (TX6 0).2.1 (TX6 0).2.2.1 ∈ AW) (hdg : decode cc pc = .ok (.getfield index, 3)) (kk : W p l e R s m args below meth c H locs cells slots Q (F0 m (pc + 3) ls (.ref (ad (1, 0, 0, 0)) :: rest))) : W p l e R s m args below meth c H locs cells slots Q (F0 m pc ls (.ref (ad (0, b, z2, z3)) :: rest)) :=
  x_get X h hk rfl rfl inX6 0 (by decide) hq rfl rfl hdg kk
theorem gf_BraidBook_booksAnew (X : Cx p s m args meth c cc own nL D tc dz A) (h : Sx D A ad Ks (lay tc ad gm dz I) s H locs) (hk : (0, b, z2, z3) ∈ Ks) (hq : Cond.fieldLink own index RX6 (TX6 1).2.1 (TX6 1).2.2.1 ∈ AW) (hdg : decode cc pc = .ok (.getfield index, 3)) (kk : W p l e R s m args below meth c H locs cells slots Q (F0 m (pc + 3) ls (.ref (ad (1, 1, 0, 0)) :: rest))) : W p l e R s m args below meth c H locs cells slots Q (F0 m pc ls (.ref (ad (0, b, z2, z3)) :: rest)) :=
  x_get X h hk rfl rfl inX6 1 (by decide) hq rfl rfl hdg kk
theorem gf_BraidBook_journal (X : Cx p s m args meth c cc own nL D tc dz A) (h : Sx D A ad Ks (lay tc ad gm dz I) s H locs) (hk : (0, b, z2, z3) ∈ Ks) (hq : Cond.fieldLink own index RX6 (TX6 2).2.1 (TX6 2).2.2.1 ∈ AW) (hdg : decode cc pc = .ok (.getfield index, 3)) (kk : W p l e R s m args below meth c H locs cells slots Q (F0 m (pc + 3) ls (.ref (ad (20, 0, 0, 0)) :: rest))) : W p l e R s m args below meth c H locs cells slots Q (F0 m pc ls (.ref (ad (0, b, z2, z3)) :: rest)) :=
  x_get X h hk rfl rfl inX6 2 (by decide) hq rfl rfl hdg kk
theorem gf_Numbers_numbers (X : Cx p s m args meth c cc own nL D tc dz A) (h : Sx D A ad Ks (lay tc ad gm dz I) s H locs) {k ka : KN} (he : ∀ f, cont tc ad gm dz k f = .inr (6, [.ref (ad ka)])) (hk : k ∈ Ks) (hq : Cond.fieldLink own index RX5 (TX5 0).2.1 (TX5 0).2.2.1 ∈ AW) (hdg : decode cc pc = .ok (.getfield index, 3)) (kk : W p l e R s m args below meth c H locs cells slots Q (F0 m (pc + 3) ls (.ref (ad ka) :: rest))) : W p l e R s m args below meth c H locs cells slots Q (F0 m pc ls (.ref (ad k) :: rest)) :=
  x_get X h hk (he (I k)) rfl inX5 0 (by decide) hq rfl rfl hdg kk
theorem ra_entries (X : Cx p s m args meth c cc own nL D tc dz A) (h : Sx D A ad Ks (lay tc ad gm dz I) s H locs) (hk : (3, b, z2, z3) ∈ Ks) {j : Nat} (hj : j < 10) (hdg : decode cc pc = .ok (.aaload, 1)) (kk : W p l e R s m args below meth c H locs cells slots Q (F0 m (pc + 1) ls (.ref (ad (4, b, j, 0)) :: rest))) : W p l e R s m args below meth c H locs cells slots Q (F0 m pc ls (.int (nI j) :: .ref (ad (3, b, z2, z3)) :: rest)) :=
  x_aald X h hk 4 rfl rfl j hj (Nat.lt_trans (by decide : 10 < 2 ^ 30) (by decide)) rfl hdg kk
theorem ra_copies (X : Cx p s m args meth c cc own nL D tc dz A) (h : Sx D A ad Ks (lay tc ad gm dz I) s H locs) (hk : (6, b, z2, z3) ∈ Ks) {j : Nat} (hj : j < 6) (hdg : decode cc pc = .ok (.aaload, 1)) (kk : W p l e R s m args below meth c H locs cells slots Q (F0 m (pc + 1) ls (.ref (ad (9, b, z2, j)) :: rest))) : W p l e R s m args below meth c H locs cells slots Q (F0 m pc ls (.int (nI j) :: .ref (ad (6, b, z2, z3)) :: rest)) :=
  x_aald X h hk 5 rfl rfl j hj (Nat.lt_trans (by decide : 6 < 2 ^ 30) (by decide)) rfl hdg kk
end FIELDS
