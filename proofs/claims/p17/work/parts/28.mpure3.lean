/-! the reference: merging and passing, entry by entry -/
def mm1 (J : Mem) (d o k m : Nat) : Mem :=
  if J (34, 0, 0, 0) (10 * d + k) = 0 then (if J (34, 0, 0, 0) (10 * o + k) = 0 then J else if oldR J d o k then mforM J o k m else joiM J d o k m)
  else if J (34, 0, 0, 0) (10 * o + k) = 0 then (if oldR J o d k then mforM J d k m else joiM J d o k m) else joiM J d o k m
def mm1G (J : Mem) (d o k : Nat) : Nat :=
  if J (34, 0, 0, 0) (10 * d + k) = 0 then (if J (34, 0, 0, 0) (10 * o + k) = 0 then 0 else if oldR J d o k then 1 else 0)
  else if J (34, 0, 0, 0) (10 * o + k) = 0 then (if oldR J o d k then 1 else 0) else 0
def mm2 (J : Mem) (d o k : Nat) : Mem := if J (34, 0, 0, 0) (10 * d + k) = 0 then (if J (34, 0, 0, 0) (10 * o + k) = 0 then notM J d o k else J) else J
def mmS (J : Mem) (d o k m : Nat) : Mem := if shB J d o k then mm2 (mm1 J d o k m) d o k else J
def mmM (I : Mem) (d o m : Nat) : Nat → Mem
  | 0 => sset (thM I 0) (30, 0, 0, 0) (upd (thM I 0 (30, 0, 0, 0)) 3 (nI 0))
  | k + 1 => mmS (mmM I d o m k) d o k m
def mmG (I : Mem) (d o m : Nat) : Nat → Nat
  | 0 => 0
  | k + 1 => mmG I d o m k + if shB (mmM I d o m k) d o k then mm1G (mmM I d o m k) d o k else 0
theorem mmG_le {I : Mem} {d o m : Nat} : ∀ k, mmG I d o m k ≤ k
  | 0 => Nat.le_refl 0
  | k + 1 => by
    have h := mmG_le (I := I) (d := d) (o := o) (m := m) k
    have h2 : mm1G (mmM I d o m k) d o k ≤ 1 := by
      unfold mm1G
      split <;> (try split) <;> (try split) <;> omega
    rw [mmG]
    split <;> omega
theorem mm1_30 {J : Mem} {d o k m j : Nat} (hj : j ≠ 3) : mm1 J d o k m (30, 0, 0, 0) j = J (30, 0, 0, 0) j := by
  unfold mm1
  split <;> (try split) <;> (try split) <;> first | rfl | rw [joi_30 hj] | rw [mfor_see (by decide) (by decide) (by decide) (by decide) (by decide) (by decide)]
theorem mm2_30 {J : Mem} {d o k : Nat} : mm2 J d o k (30, 0, 0, 0) = J (30, 0, 0, 0) := by
  unfold mm2
  split <;> (try split) <;> first | rfl | rw [not_see (by decide) (by decide)]
theorem mmS_30 {J : Mem} {d o k m j : Nat} (hj : j ≠ 3) : mmS J d o k m (30, 0, 0, 0) j = J (30, 0, 0, 0) j := by
  unfold mmS
  split
  · rw [mm2_30, mm1_30 hj]
  · rfl
theorem mm_30 {I : Mem} {d o m j : Nat} (hj : j ≠ 3) (hj4 : j ≠ 4) : ∀ k, mmM I d o m k (30, 0, 0, 0) j = I (30, 0, 0, 0) j
  | 0 => by
    rw [mmM, sset_eq]
    simp only [upd, if_neg hj, thM, sset_eq, if_neg hj4]
  | k + 1 => by rw [mmM, mmS_30 hj, mm_30 hj hj4 k]
/-- whether all marks of an entry are old on a device that knows it, and the entry isn't there -/
def mpB (J : Mem) (d k m : Nat) : Bool := if J (34, 0, 0, 0) (10 * d + k) = 0 then false else !thr J d k m && (agC J d k m && decide (0 < agN J d k m))
def mpE (J : Mem) (d m : Nat) : Nat → Mem
  | 0 => J
  | k + 1 => if mpB (mpE J d m k) d k m then mforM (mpE J d m k) d k m else mpE J d m k
def mpEn (J : Mem) (d m : Nat) : Nat → Nat
  | 0 => 0
  | k + 1 => mpEn J d m k + if mpB (mpE J d m k) d k m then 1 else 0
def mpD (I : Mem) (x : Int32) (n m : Nat) : Nat → Mem
  | 0 => sset (thM I 0) (30, 0, 0, 0) (upd (thM I 0 (30, 0, 0, 0)) 0 (thM I 0 (30, 0, 0, 0) 0 + x))
  | d + 1 => mpE (mpD I x n m d) d m n
def mpDn (I : Mem) (x : Int32) (n m : Nat) : Nat → Nat
  | 0 => 0
  | d + 1 => mpDn I x n m d + mpEn (mpD I x n m d) d m n
theorem mpEn_le {J : Mem} {d m : Nat} : ∀ k, mpEn J d m k ≤ k
  | 0 => Nat.le_refl 0
  | k + 1 => by
    have h := mpEn_le (J := J) (d := d) (m := m) k
    rw [mpEn]
    split <;> omega
theorem mpDn_le {I : Mem} {x : Int32} {n m : Nat} : ∀ d, mpDn I x n m d ≤ n * d
  | 0 => Nat.le_refl 0
  | d + 1 => by
    have h := mpDn_le (I := I) (x := x) (n := n) (m := m) d
    have h2 := mpEn_le (J := mpD I x n m d) (d := d) (m := m) n
    rw [mpDn, Nat.mul_add, Nat.mul_one]
    omega
theorem mpE_30 {J : Mem} {d m : Nat} : ∀ k, mpE J d m k (30, 0, 0, 0) = J (30, 0, 0, 0)
  | 0 => rfl
  | k + 1 => by
    rw [mpE]
    split
    · rw [mfor_see (by decide) (by decide) (by decide) (by decide) (by decide) (by decide), mpE_30 k]
    · exact mpE_30 k
theorem mpD_30 {I : Mem} {x : Int32} {n m j : Nat} (hj : j ≠ 0) (hj4 : j ≠ 4) : ∀ d, mpD I x n m d (30, 0, 0, 0) j = I (30, 0, 0, 0) j
  | 0 => by
    rw [mpD, sset_eq]
    simp only [upd, if_neg hj, thM, sset_eq, if_neg hj4]
  | d + 1 => by rw [mpD, mpE_30, mpD_30 hj hj4 d]
