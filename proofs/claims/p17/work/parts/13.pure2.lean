/-! rows of a copy -/
def rf {α : Type} (lo hi : Nat) (g f : Nat → α) : Nat → α := fun c => if lo ≤ c ∧ c < hi then g c else f c
theorem rf_0 {α : Type} (lo : Nat) (g f : Nat → α) : rf lo lo g f = f := by
  funext c
  have : ¬ (lo ≤ c ∧ c < lo) := by omega
  simp [rf, this]
theorem rf_at {α : Type} (lo i : Nat) (g f : Nat → α) : rf lo (lo + i) g f (lo + i) = f (lo + i) := by
  have : ¬ (lo ≤ lo + i ∧ lo + i < lo + i) := by omega
  simp [rf, this]
theorem rf_s (lo i : Nat) (g f : Nat → Int32) {v : Int32} (hv : v = g (lo + i)) : upd (rf lo (lo + i) g f) (lo + i) v = rf lo (lo + (i + 1)) g f := by
  subst hv
  funext c
  simp only [upd, rf]
  by_cases h : c = lo + i
  · subst h
    have : lo ≤ lo + i ∧ lo + i < lo + (i + 1) := by omega
    simp [this]
  · by_cases h2 : lo ≤ c ∧ c < lo + i
    · have : lo ≤ c ∧ c < lo + (i + 1) := by omega
      simp [h, h2, this]
    · have : ¬ (lo ≤ c ∧ c < lo + (i + 1)) := by omega
      simp [h, h2, this]
theorem upd_same {α : Type} (f : Nat → Int32) (k : Nat) : upd f k (f k) = f := by
  funext c
  simp only [upd]
  by_cases h : c = k
  · subst h; simp
  · simp [h]
def nz (x : Int32) : Bool := if x = 0 then false else true
def kno (x : Int32) : Bool := if x = (-1) then false else true
/-- how many values a field has, and all fields -/
def cvF (A : Nat → Int32) (f : Nat) : Nat := cntN (fun d => nz (A (f * 6 + d))) 6
def cvA (A : Nat → Int32) : Nat := cntN (fun c => nz (A c)) 24
def ccl (A : Nat → Int32) : Nat := cntN (fun f => decide (1 < cvF A f)) 4
theorem cvF_le (A : Nat → Int32) (f : Nat) : cvF A f ≤ 6 := cntN_le _ _
theorem cvA_le (A : Nat → Int32) : cvA A ≤ 24 := cntN_le _ _
theorem ccl_le (A : Nat → Int32) : ccl A ≤ 4 := cntN_le _ _
/-- the value at an index: n devices are left, from device k, 'left' values to pass -/
def vFrom (A T : Nat → Int32) (f : Nat) : Nat → Nat → Nat → Int32
  | 0, _, _ => -1
  | n + 1, k, left => if nz (A (f * 6 + k)) then (if left = 0 then T (f * 6 + k) else vFrom A T f n (k + 1) (left - 1)) else vFrom A T f n (k + 1) left
def keepR (F : Int32) (r : Nat → Int32) : Nat → Int32 := fun c => if bit F (c / 6) then r c else 0
def sameV (A B : Nat → Int32) (f : Nat) : Bool := allB (fun d => decide (A (f * 6 + d) = B (f * 6 + d))) 6
/-- braiding a cell: what stays at 'own' (an act's number or a value) of a, b with what both have seen -/
def bX (own a b sa sb va vb : Int32) : Int32 := if a = b then own else if a ≤ sb then (if b ≤ sa then 0 else vb) else va
def bR (a b sa sb : Int32) : Int32 := if a = b then 0 else if bX a a b sa sb a b = 0 then 0 else 1
def sumI (g : Nat → Int32) : Nat → Int32
  | 0 => 0
  | n + 1 => sumI g n + g n
/-- memories -/
def keepM (F : Int32) (I : Mem) (b e d : Nat) : Mem := sset (sset (sset I (10, b, e, d) (keepR F (I (10, b, e, d)))) (11, b, e, d) (keepR F (I (11, b, e, d)))) (13, b, e, d) (keepR F (I (13, b, e, d)))
def dropM (f : Nat) (I : Mem) (b e d : Nat) : Mem := sset (sset I (10, b, e, d) (rf (f * 6) (f * 6 + 6) (fun _ => 0) (I (10, b, e, d)))) (11, b, e, d) (rf (f * 6) (f * 6 + 6) (fun _ => 0) (I (11, b, e, d)))
/-- a cell of two copies braided: rows A, T, S of the one, B, U, Z of the other -/
def gA (A B S Z : Nat → Int32) : Nat → Int32 := fun c => bX (A c) (A c) (B c) (S c) (Z c) (A c) (B c)
def gB (A B S Z : Nat → Int32) : Nat → Int32 := fun c => bX (B c) (A c) (B c) (S c) (Z c) (A c) (B c)
def gT (A B S Z T U : Nat → Int32) : Nat → Int32 := fun c => bX (T c) (A c) (B c) (S c) (Z c) (T c) (U c)
def gU (A B S Z T U : Nat → Int32) : Nat → Int32 := fun c => bX (U c) (A c) (B c) (S c) (Z c) (T c) (U c)
def gR (A B S Z : Nat → Int32) : Nat → Int32 := fun c => bR (A c) (B c) (S c) (Z c)
def gM (S Z : Nat → Int32) : Nat → Int32 := fun c => imax (S c) (Z c)
def cellM (I : Mem) (b e d d2 c : Nat) : Mem :=
  sset (sset (sset (sset I (10, b, e, d) (upd (I (10, b, e, d)) c (gA (I (10, b, e, d)) (I (10, b, e, d2)) (I (13, b, e, d)) (I (13, b, e, d2)) c)))
    (11, b, e, d) (upd (I (11, b, e, d)) c (gT (I (10, b, e, d)) (I (10, b, e, d2)) (I (13, b, e, d)) (I (13, b, e, d2)) (I (11, b, e, d)) (I (11, b, e, d2)) c)))
    (10, b, e, d2) (upd (I (10, b, e, d2)) c (gB (I (10, b, e, d)) (I (10, b, e, d2)) (I (13, b, e, d)) (I (13, b, e, d2)) c)))
    (11, b, e, d2) (upd (I (11, b, e, d2)) c (gU (I (10, b, e, d)) (I (10, b, e, d2)) (I (13, b, e, d)) (I (13, b, e, d2)) (I (11, b, e, d)) (I (11, b, e, d2)) c))
/-- the cells lo to hi - 1 braided, and what both have seen of them -/
def braidM (lo hi : Nat) (I : Mem) (b e d d2 : Nat) : Mem :=
  sset (sset (sset (sset (sset (sset I (10, b, e, d) (rf lo hi (gA (I (10, b, e, d)) (I (10, b, e, d2)) (I (13, b, e, d)) (I (13, b, e, d2))) (I (10, b, e, d))))
    (11, b, e, d) (rf lo hi (gT (I (10, b, e, d)) (I (10, b, e, d2)) (I (13, b, e, d)) (I (13, b, e, d2)) (I (11, b, e, d)) (I (11, b, e, d2))) (I (11, b, e, d))))
    (10, b, e, d2) (rf lo hi (gB (I (10, b, e, d)) (I (10, b, e, d2)) (I (13, b, e, d)) (I (13, b, e, d2))) (I (10, b, e, d2))))
    (11, b, e, d2) (rf lo hi (gU (I (10, b, e, d)) (I (10, b, e, d2)) (I (13, b, e, d)) (I (13, b, e, d2)) (I (11, b, e, d)) (I (11, b, e, d2))) (I (11, b, e, d2))))
    (13, b, e, d) (rf lo hi (gM (I (13, b, e, d)) (I (13, b, e, d2))) (I (13, b, e, d))))
    (13, b, e, d2) (rf lo hi (gM (I (13, b, e, d)) (I (13, b, e, d2))) (I (13, b, e, d2)))
/-- notes exchanged -/
def exchM (I : Mem) (b e d d2 : Nat) : Mem :=
  if nz (I (9, b, e, d) 1) || nz (I (9, b, e, d2) 1) then
    sset (sset (sset (sset I (9, b, e, d) (upd (I (9, b, e, d)) 1 1)) (9, b, e, d2) (upd (I (9, b, e, d2)) 1 1)) (15, b, e, d) (gM (I (15, b, e, d)) (I (15, b, e, d2)))) (15, b, e, d2) (gM (I (15, b, e, d2)) (gM (I (15, b, e, d)) (I (15, b, e, d2))))
  else I
def clearM (I : Mem) (b e d : Nat) : Mem :=
  sset (sset (sset (sset (sset I (9, b, e, d) (upd (upd (I (9, b, e, d)) 0 0) 1 0)) (10, b, e, d) (fun _ => 0)) (11, b, e, d) (fun _ => 0)) (13, b, e, d) (fun _ => 0)) (15, b, e, d) (fun _ => 0)
theorem bit_0 (f : Nat) : bit 0 f = false := by
  unfold bit
  rw [if_pos]
  have e : (0 : Int32) >>> (nI f &&& 31) = 0 := by
    apply Int32.toBitVec_inj.mp
    simp [Int32.toBitVec_shiftRight]
  rw [e]; rfl
theorem keepR_0 (r : Nat → Int32) : keepR 0 r = fun _ => 0 := by funext c; simp [keepR, bit_0]
/-- a mark set: what was seen, and since when each device knows it -/
def markM (I : Mem) (b e j d : Nat) (month : Int32) : Mem := sset (sset I (18, b, e, j) (fun c => imax 0 (I (13, b, e, d) c))) (19, b, e, j) (upd (fun _ => -1) d month)
def sprd (r : Nat → Int32) (d d2 : Nat) (month : Int32) : Nat → Int32 := if kno (r d) then (if kno (r d2) then r else upd r d2 month) else (if kno (r d2) then upd r d month else r)
