/-! what the law's small methods answer -/
/-- s covers v -/
def cvr (s v : Nat → Int32) : Bool := allB (fun k => !decide (s k < v k)) 6
def ctv (v : Nat → Int32) : Nat := cntN (fun k => decide (0 < v k)) 6
def jnd (a b sa sb : Nat → Int32) : Nat → Int32 := fun k => if a k = b k then a k else if sb k < a k then a k else if sa k < b k then b k else 0
def frs (b t : Nat → Int32) : Nat := cntN (fun k => decide (0 < t k) && !decide (t k = b k)) 6
theorem ctv_le (v : Nat → Int32) : ctv v ≤ 6 := cntN_le _ _
theorem frs_le (b t : Nat → Int32) : frs b t ≤ 6 := cntN_le _ _
theorem sm6_imax {a b : Int32} (ha : sm6 a) (hb : sm6 b) : sm6 (imax a b) := by
  unfold sm6 at *
  rw [i_imax]
  omega
theorem sm6_0 : sm6 0 := by
  unfold sm6
  rw [i_zero]
  omega
theorem sm6_jnd {a b sa sb : Nat → Int32} {k : Nat} (ha : sm6 (a k)) (hb : sm6 (b k)) : sm6 (jnd a b sa sb k) := by
  unfold jnd
  split
  · exact ha
  · split
    · exact ha
    · split
      · exact hb
      · exact sm6_0
theorem not_le_lt {a b : Int32} (h : ¬ a ≤ b) : b < a := Int32.not_le.mp h
theorem le_not_lt {a b : Int32} (h : a ≤ b) : ¬ b < a := fun q => Int32.not_lt.mpr h q
theorem lt_not_le {a b : Int32} (h : b < a) : ¬ a ≤ b := fun q => le_not_lt q h
theorem not_lt_le {a b : Int32} (h : ¬ a < b) : b ≤ a := Int32.not_lt.mp h
