/-! rows filled from the left; memories -/
def pf {α : Type} (i : Nat) (g f : Nat → α) : Nat → α := fun c => if c < i then g c else f c
theorem pf_0 {α : Type} (g f : Nat → α) : pf 0 g f = f := by funext c; simp [pf]
theorem pf_s (i : Nat) (g f : Nat → Int32) : upd (pf i g f) i (g i) = pf (i + 1) g f := by
  funext c
  simp only [upd, pf]
  by_cases h : c = i
  · subst h; simp
  · by_cases h2 : c < i
    · simp [h, h2, Nat.lt_succ_of_lt h2]
    · have : ¬ c < i + 1 := by omega
      simp [h, h2, this]
theorem sset_id {α : Type} (I : KN → α) (k : KN) : sset I k (I k) = I := by
  funext k'
  by_cases h : k' = k
  · subst h; rw [sset_eq]
  · rw [sset_ne _ _ h]
theorem sset_sset {α : Type} (I : KN → α) (k : KN) (f g : α) : sset (sset I k f) k g = sset I k g := by
  funext k'
  by_cases h : k' = k
  · subst h; rw [sset_eq, sset_eq]
  · rw [sset_ne _ _ h, sset_ne _ _ h, sset_ne _ _ h]
theorem sset_comm {α : Type} (I : KN → α) {k k2 : KN} (hk : k ≠ k2) (f g : α) : sset (sset I k f) k2 g = sset (sset I k2 g) k f := by
  funext k'
  by_cases h : k' = k
  · subst h; rw [sset_ne _ _ hk, sset_eq, sset_eq]
  · by_cases h2 : k' = k2
    · subst h2; rw [sset_eq, sset_ne _ _ h, sset_eq]
    · rw [sset_ne _ _ h2, sset_ne _ _ h, sset_ne _ _ h, sset_ne _ _ h2]
theorem pf_at0 (I : Mem) (k : KN) (g : Nat → Int32) : I = sset I k (pf 0 g (I k)) := by rw [pf_0, sset_id]
theorem pf_step (I : Mem) (k : KN) {g f : Nat → Int32} {i : Nat} {v : Int32} (hv : v = g i) : sset (sset I k (pf i g f)) k (upd ((sset I k (pf i g f)) k) i v) = sset I k (pf (i + 1) g f) := by
  rw [sset_sset, sset_eq, hv, pf_s]
theorem pf_see (I : Mem) (k k' : KN) (g : Nat → Int32) (i : Nat) : (sset I k (pf i g (I k))) k' i = I k' i := by
  by_cases h : k' = k
  · subst h; rw [sset_eq]; simp [pf]
  · rw [sset_ne _ _ h]
theorem arr_ext {cA : ClassId} {n : Nat} {f g : Nat → Int32} (h : ∀ c, c < n → f c = g c) : vp_cell cA (n, .inl f) = vp_cell cA (n, .inl g) := by
  rw [vp_cell_i, vp_cell_i]
  unfold arrV
  congr 1
  apply congrArg
  funext j
  show Value.int (f j.val) = Value.int (g j.val)
  rw [h j.val j.isLt]
/-- outside an array's length nothing is said -/
theorem Sx.arr {D : va_G} {A : Nat → Prop} {tc : TC} {ad : KN → Nat} {gm : GM} {dz : Nat} {Ks : List KN} {I : Mem} {k : KN} {n t : Nat} {f g : Nat → Int32} {s : State} {H : Heap} {locs : List Loc} (h : Sx D A ad Ks (lay tc ad gm dz (sset I k f)) s H locs) (he : ∀ f, cont tc ad gm dz k f = .inl (tc t, n, .inl f)) (hfg : ∀ c, c < n → f c = g c) : Sx D A ad Ks (lay tc ad gm dz (sset I k g)) s H locs := by
  refine ⟨fun k' hk' => ?_, h.2⟩
  have h1 := h.1 k' hk'
  by_cases hk : k' = k
  · subst hk
    have e1 : lay tc ad gm dz (sset I k' f) k' = .inl (tc t, n, .inl f) := by show cont tc ad gm dz k' (sset I k' f k') = _; rw [sset_eq, he]
    have e2 : lay tc ad gm dz (sset I k' g) k' = .inl (tc t, n, .inl g) := by show cont tc ad gm dz k' (sset I k' g k') = _; rw [sset_eq, he]
    rw [e1] at h1
    rw [e2]
    exact Eq.trans (b := some (vp_cell (tc t) (n, .inl f))) h1 (congrArg some (arr_ext hfg))
  · have e1 : lay tc ad gm dz (sset I k f) k' = lay tc ad gm dz (sset I k g) k' := by
      show cont tc ad gm dz k' (sset I k f k') = cont tc ad gm dz k' (sset I k g k')
      rw [sset_ne _ _ hk, sset_ne _ _ hk]
    rw [← e1]
    exact h1
theorem Sx.pfEnd {D : va_G} {A : Nat → Prop} {tc : TC} {ad : KN → Nat} {gm : GM} {dz : Nat} {Ks : List KN} {I : Mem} {k : KN} {n t : Nat} {f g : Nat → Int32} {s : State} {H : Heap} {locs : List Loc} (h : Sx D A ad Ks (lay tc ad gm dz (sset I k (pf n g f))) s H locs) (he : ∀ f, cont tc ad gm dz k f = .inl (tc t, n, .inl f)) : Sx D A ad Ks (lay tc ad gm dz (sset I k g)) s H locs := h.arr he (fun c hc => by simp [pf, hc])
theorem nI_one : nI 1 = 1 := rfl
def imax (a b : Int32) : Int32 := if a < b then b else a
def imin (a b : Int32) : Int32 := if b < a then b else a
/-! what the class's small static methods answer -/
def isDev (x : Int32) : Bool := if x < 0 then false else if nI 6 ≤ x then false else true
def isPer (x : Int32) : Bool := if x < 0 then false else if nI 3 ≤ x then false else true
def isFld (x : Int32) : Bool := if x < 0 then false else if nI 4 ≤ x then false else true
theorem in_of {x : Int32} {n : Nat} (hn : n < 2 ^ 31) (h0 : ¬ x < 0) (h1 : ¬ nI n ≤ x) : ∃ j : Nat, j < n ∧ x = nI j := by
  rcases pk_ix x hn with h | h | h
  · exact absurd h h0
  · exact absurd h h1
  · exact h
theorem isDev_of {x : Int32} (h : isDev x = true) : ∃ j : Nat, j < 6 ∧ x = nI j := by
  unfold isDev at h
  by_cases h0 : x < 0
  · simp [h0] at h
  · by_cases h1 : nI 6 ≤ x
    · simp [h0, h1] at h
    · exact in_of (by decide) h0 h1
theorem isPer_of {x : Int32} (h : isPer x = true) : ∃ j : Nat, j < 3 ∧ x = nI j := by
  unfold isPer at h
  by_cases h0 : x < 0
  · simp [h0] at h
  · by_cases h1 : nI 3 ≤ x
    · simp [h0, h1] at h
    · exact in_of (by decide) h0 h1
theorem isFld_of {x : Int32} (h : isFld x = true) : ∃ j : Nat, j < 4 ∧ x = nI j := by
  unfold isFld at h
  by_cases h0 : x < 0
  · simp [h0] at h
  · by_cases h1 : nI 4 ≤ x
    · simp [h0, h1] at h
    · exact in_of (by decide) h0 h1
theorem isDev_nI {d : Nat} (h : d < 6) : isDev (nI d) = true := by
  unfold isDev
  rw [if_neg (nI_pos (by omega)), if_neg (nI_ge h (by decide))]
theorem isPer_nI {d : Nat} (h : d < 3) : isPer (nI d) = true := by
  unfold isPer
  rw [if_neg (nI_pos (by omega)), if_neg (nI_ge h (by decide))]
theorem isFld_nI {d : Nat} (h : d < 4) : isFld (nI d) = true := by
  unfold isFld
  rw [if_neg (nI_pos (by omega)), if_neg (nI_ge h (by decide))]
/-- bit f of x -/
def bit (x : Int32) (f : Nat) : Bool := if x >>> (nI f &&& 31) &&& nI 1 = 0 then false else true
def allB (p : Nat → Bool) : Nat → Bool
  | 0 => true
  | n + 1 => allB p n && p n
theorem allB_t {p : Nat → Bool} : ∀ {n : Nat}, (∀ j, j < n → p j = true) → allB p n = true
  | 0, _ => rfl
  | n + 1, h => by rw [allB, allB_t (fun j hj => h j (Nat.lt_succ_of_lt hj)), h n (Nat.lt_succ_self n)]; rfl
theorem allB_of {p : Nat → Bool} : ∀ {n : Nat}, allB p n = true → ∀ j, j < n → p j = true
  | 0, _, j, hj => absurd hj (Nat.not_lt_zero j)
  | n + 1, h, j, hj => by
    rw [allB, Bool.and_eq_true] at h
    rcases Nat.lt_succ_iff_lt_or_eq.mp hj with q | q
    · exact allB_of h.1 j q
    · rw [q]; exact h.2
theorem allB_iff {p : Nat → Bool} {n : Nat} : allB p n = true ↔ ∀ j, j < n → p j = true := ⟨allB_of, allB_t⟩
theorem allB_f {p : Nat → Bool} {n j : Nat} (hj : j < n) (h : p j = false) : allB p n = false := by
  cases hq : allB p n with
  | false => rfl
  | true => rw [allB_of hq j hj] at h; cases h
def anyB (p : Nat → Bool) : Nat → Bool
  | 0 => false
  | n + 1 => anyB p n || p n
theorem anyB_f {p : Nat → Bool} : ∀ {n : Nat}, (∀ j, j < n → p j = false) → anyB p n = false
  | 0, _ => rfl
  | n + 1, h => by rw [anyB, anyB_f (fun j hj => h j (Nat.lt_succ_of_lt hj)), h n (Nat.lt_succ_self n)]; rfl
theorem anyB_of {p : Nat → Bool} : ∀ {n : Nat}, anyB p n = false → ∀ j, j < n → p j = false
  | 0, _, j, hj => absurd hj (Nat.not_lt_zero j)
  | n + 1, h, j, hj => by
    rw [anyB, Bool.or_eq_false_iff] at h
    rcases Nat.lt_succ_iff_lt_or_eq.mp hj with q | q
    · exact anyB_of h.1 j q
    · rw [q]; exact h.2
theorem anyB_t {p : Nat → Bool} {n j : Nat} (hj : j < n) (h : p j = true) : anyB p n = true := by
  cases hq : anyB p n with
  | true => rfl
  | false => rw [anyB_of hq j hj] at h; cases h
/-- how many below n are so -/
def cntN (p : Nat → Bool) : Nat → Nat
  | 0 => 0
  | n + 1 => cntN p n + if p n then 1 else 0
theorem cntN_le (p : Nat → Bool) : ∀ n, cntN p n ≤ n
  | 0 => Nat.le_refl 0
  | n + 1 => by
    have ih := cntN_le p n
    rw [cntN]
    split <;> omega
theorem cntN_y {p : Nat → Bool} {n : Nat} (h : p n = true) : cntN p (n + 1) = cntN p n + 1 := by simp [cntN, h]
theorem cntN_n {p : Nat → Bool} {n : Nat} (h : p n = false) : cntN p (n + 1) = cntN p n := by simp [cntN, h]
def cov (A N : Nat → Int32) : Bool := allB (fun c => decide (A c ≤ N c)) 24
theorem cov_f {A N : Nat → Int32} {i : Nat} (hi : i < 24) (h : ¬ A i ≤ N i) : nI 0 = bI (cov A N) := by
  have : cov A N = false := allB_f hi (decide_eq_false h)
  rw [this]; rfl
theorem cov_t {A N : Nat → Int32} (h : ∀ j, j < 24 → A j ≤ N j) : nI 1 = bI (cov A N) := by
  have : cov A N = true := allB_t (fun j hj => decide_eq_true (h j hj))
  rw [this]; rfl
