/-! small helpers that stood beside the reference walks -/
theorem gt0 {x : Int32} (h : ¬ x ≤ 0) : 0 < x := by
  rw [Int32.le_iff_toInt_le] at h
  rw [Int32.lt_iff_toInt_lt]
  omega
theorem n_le0 {a : Nat} (ha : a < 2 ^ 31) (h : nI a ≤ 0) : ¬ 0 < a := by
  rw [Int32.le_iff_toInt_le, nI_toInt ha] at h
  have : (0 : Int32).toInt = 0 := by decide
  omega
theorem n_gt0 {a : Nat} (ha : a < 2 ^ 31) (h : ¬ nI a ≤ 0) : 0 < a := by
  rw [Int32.le_iff_toInt_le, nI_toInt ha] at h
  have : (0 : Int32).toInt = 0 := by decide
  omega
theorem le0 {x : Int32} (h : x ≤ 0) : ¬ 0 < x := by
  rw [Int32.le_iff_toInt_le] at h
  rw [Int32.lt_iff_toInt_lt]
  omega
def agF (same all : Nat) : UInt32 := if all = 0 then FP.fconst1 else FP.fdiv (FP.i2f (nI same)) (FP.i2f (nI all))
set_option maxRecDepth 100000 in
theorem fdiv_all : ∀ a, a < 41 → ∀ b, b < 41 → 0 < b → FP.fdiv (FP.i2f (nI a)) (FP.i2f (nI b)) &&& 0x7fffffff ≤ 0x7f800000 := by decide +kernel
theorem fdiv_n {a b : Nat} (ha : a ≤ 40) (hb : b ≤ 40) (h0 : 0 < b) : vf_n32 (FP.fdiv (FP.i2f (nI a)) (FP.i2f (nI b))) := fdiv_all a (by omega) b (by omega) h0
