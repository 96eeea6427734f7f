/-! the reference: its memory, and what its methods answer -/
def thM (I : Mem) (w : Nat) : Mem := sset I (30, 0, 0, 0) (upd (I (30, 0, 0, 0)) 4 (nI w))
def inR (x a b : Int32) : Bool := if x < a then false else if b < x then false else true
def isEnt (n : Nat) (x : Int32) : Bool := if x < 0 then false else if nI n ≤ x then false else true
theorem lt_suc {x : Int32} {k : Nat} (h : k + 1 < 2 ^ 31) : nI k < x ↔ nI (k + 1) ≤ x := by
  rw [Int32.lt_iff_toInt_lt, Int32.le_iff_toInt_le, nI_toInt (by omega), nI_toInt h]
  omega
theorem inR_dev (x : Int32) : inR x (nI 0) (nI 5) = isDev x := by
  unfold inR isDev
  rw [show (nI 0 : Int32) = 0 from rfl]
  by_cases h0 : x < 0
  · rw [if_pos h0, if_pos h0]
  · rw [if_neg h0, if_neg h0]
    by_cases h1 : nI 5 < x
    · rw [if_pos h1, if_pos ((lt_suc (by decide)).mp h1)]
    · rw [if_neg h1, if_neg (fun q => h1 ((lt_suc (by decide)).mpr q))]
theorem inR_per (x : Int32) : inR x (nI 0) (nI 2) = isPer x := by
  unfold inR isPer
  rw [show (nI 0 : Int32) = 0 from rfl]
  by_cases h0 : x < 0
  · rw [if_pos h0, if_pos h0]
  · rw [if_neg h0, if_neg h0]
    by_cases h1 : nI 2 < x
    · rw [if_pos h1, if_pos ((lt_suc (by decide)).mp h1)]
    · rw [if_neg h1, if_neg (fun q => h1 ((lt_suc (by decide)).mpr q))]
theorem inR_fld (x : Int32) : inR x (nI 0) (nI 3) = isFld x := by
  unfold inR isFld
  rw [show (nI 0 : Int32) = 0 from rfl]
  by_cases h0 : x < 0
  · rw [if_pos h0, if_pos h0]
  · rw [if_neg h0, if_neg h0]
    by_cases h1 : nI 3 < x
    · rw [if_pos h1, if_pos ((lt_suc (by decide)).mp h1)]
    · rw [if_neg h1, if_neg (fun q => h1 ((lt_suc (by decide)).mpr q))]
theorem inR_ent {n : Nat} (hn : n ≤ 10) (x : Int32) : inR x (nI 0) (nI n - nI 1) = isEnt n x := by
  unfold inR isEnt
  rw [show (nI 0 : Int32) = 0 from rfl]
  by_cases h0 : x < 0
  · rw [if_pos h0, if_pos h0]
  · rw [if_neg h0, if_neg h0]
    by_cases hz : n = 0
    · subst hz
      have h1 : nI 0 ≤ x := by
        rw [Int32.lt_iff_toInt_lt] at h0
        rw [Int32.le_iff_toInt_le, nI_toInt (by decide)]
        have : (0 : Int32).toInt = 0 := by decide
        omega
      have h2 : nI 0 - nI 1 < x := by
        rw [Int32.le_iff_toInt_le, nI_toInt (by decide)] at h1
        rw [Int32.lt_iff_toInt_lt]
        have : (nI 0 - nI 1).toInt = -1 := by decide
        omega
      rw [if_pos h1, if_pos h2]
    · have e : nI n - nI 1 = nI (n - 1) := nI_sub (by omega)
      rw [e]
      have e2 := lt_suc (x := x) (k := n - 1) (by omega)
      rw [show n - 1 + 1 = n by omega] at e2
      by_cases h1 : nI (n - 1) < x
      · rw [if_pos h1, if_pos (e2.mp h1)]
      · rw [if_neg h1, if_neg (fun q => h1 (e2.mpr q))]
theorem isEnt_of {n : Nat} (hn : n ≤ 10) {x : Int32} (h : isEnt n x = true) : ∃ j : Nat, j < n ∧ x = nI j := by
  unfold isEnt at h
  by_cases h0 : x < 0
  · simp [h0] at h
  · by_cases h1 : nI n ≤ x
    · simp [h0, h1] at h
    · exact in_of (by omega) h0 h1
theorem isEnt_nI {n e : Nat} (hn : n ≤ 10) (h : e < n) : isEnt n (nI e) = true := by
  unfold isEnt
  rw [if_neg (nI_pos (by omega)), if_neg (nI_ge h (by omega))]
/-- an int is even or odd -/
theorem and1 (y : Int32) : y &&& nI 1 = 0 ∨ y &&& nI 1 = nI 1 := by
  have h : (y &&& nI 1).toBitVec = y.toBitVec &&& 1#32 := rfl
  have hh : ∀ b : BitVec 32, b &&& 1#32 = 0#32 ∨ b &&& 1#32 = 1#32 := by
    intro b
    rcases Nat.mod_two_eq_zero_or_one b.toNat with q | q
    · left
      apply BitVec.eq_of_toNat_eq
      rw [BitVec.toNat_and]
      show b.toNat &&& 1 = 0
      rw [Nat.and_one_is_mod, q]
    · right
      apply BitVec.eq_of_toNat_eq
      rw [BitVec.toNat_and]
      show b.toNat &&& 1 = 1
      rw [Nat.and_one_is_mod, q]
  rcases hh y.toBitVec with q | q
  · left; exact Int32.toBitVec_inj.mp (h.trans q)
  · right; exact Int32.toBitVec_inj.mp (h.trans q)
theorem bit_t {x : Int32} {f : Nat} (h : x >>> (nI f &&& 31) &&& nI 1 = nI 1) : bit x f = true := by
  unfold bit
  rw [h, if_neg (by decide)]
theorem bit_f {x : Int32} {f : Nat} (h : x >>> (nI f &&& 31) &&& nI 1 ≠ nI 1) : bit x f = false := by
  unfold bit
  rw [if_pos ((and1 _).resolve_right h)]
theorem bit_n {x : Int32} {f : Nat} (h : x >>> (nI f &&& 31) &&& nI 1 ≠ 0) : bit x f = true := by
  unfold bit
  rw [if_neg h]
theorem bit_z {x : Int32} {f : Nat} (h : x >>> (nI f &&& 31) &&& nI 1 = 0) : bit x f = false := by
  unfold bit
  rw [if_pos h]
def mayB (I : Mem) (d e f : Nat) : Bool := if I (32, 0, 0, 0) e = nI (d / 2) then true else bit (I (33, 0, 0, 0) (3 * e + d / 2)) f
def cnF (I : Mem) (d e f : Nat) : Nat := cntN (fun k => decide (0 < I (35, 0, 0, 0) (24 * (10 * d + e) + 6 * f + k))) 6
theorem cnF_le (I : Mem) (d e f : Nat) : cnF I d e f ≤ 6 := cntN_le _ _
def cnA (I : Mem) (d e : Nat) : Nat → Nat
  | 0 => 0
  | n + 1 => cnA I d e n + cnF I d e n
theorem cnA_le (I : Mem) (d e : Nat) : ∀ n, cnA I d e n ≤ 6 * n
  | 0 => Nat.le_refl 0
  | n + 1 => by
    have h1 := cnA_le I d e n
    have h2 := cnF_le I d e n
    rw [cnA]
    omega
def kmk (I : Mem) (d k : Nat) : Bool := decide (0 < I (42, 0, 0, 0) (6 * k + d))
def cvP (I : Mem) (k d e c : Nat) : Bool := !decide (I (41, 0, 0, 0) (24 * k + c) < I (35, 0, 0, 0) (24 * (10 * d + e) + c))
def cvm (I : Mem) (k d e : Nat) : Bool := allB (cvP I k d e) 24
def mo (I : Mem) (e k : Nat) : Bool := decide (I (40, 0, 0, 0) k = nI e)
def cvQ (I : Mem) (d e k : Nat) : Bool := mo I e k && (kmk I d k && cvm I k d e)
def cvt (I : Mem) (d e m : Nat) : Bool := anyB (cvQ I d e) m
def thr (I : Mem) (d e m : Nat) : Bool := if I (34, 0, 0, 0) (10 * d + e) = 0 then false else decide (0 < cnA I d e 4) && !cvt I d e m
theorem imax_gt {a b : Int32} (h : ¬ a ≤ b) : a = imax a b := by
  unfold imax
  rw [if_neg]
  intro q
  rw [Int32.lt_iff_toInt_lt] at q
  rw [Int32.le_iff_toInt_le] at h
  omega
theorem imax_le {a b : Int32} (h : a ≤ b) : b = imax a b := by
  unfold imax
  by_cases q : a < b
  · rw [if_pos q]
  · rw [if_neg q]
    rw [Int32.lt_iff_toInt_lt] at q
    rw [Int32.le_iff_toInt_le] at h
    exact Int32.toInt_inj.mp (by omega)
/-- a note covers what another device has -/
def oldP (I : Mem) (d o e c : Nat) : Bool := !decide (I (39, 0, 0, 0) (24 * (10 * d + e) + c) < I (35, 0, 0, 0) (24 * (10 * o + e) + c))
def oldB (I : Mem) (hb : Bool) (d o e : Nat) : Nat → Bool
  | 0 => hb
  | n + 1 => oldB I hb d o e n && oldP I d o e n
def shP (I : Mem) (d o e f : Nat) : Bool := mayB I d e f && mayB I o e f
def shB (I : Mem) (d o e : Nat) : Bool := anyB (shP I d o e) 4
def samP (I : Mem) (d o e f k : Nat) : Bool := decide (I (35, 0, 0, 0) (24 * (10 * d + e) + 6 * f + k) = I (35, 0, 0, 0) (24 * (10 * o + e) + 6 * f + k))
def samB (I : Mem) (d o e f : Nat) : Bool := allB (samP I d o e f) 6
def agP (I : Mem) (d k : Nat) (month : Int32) : Bool := decide (nI 12 < month + nI 1 - I (42, 0, 0, 0) (6 * k + d))
/-- how many marks of the entry the device knows, among the first; whether all of them for long -/
def agN (I : Mem) (d e m : Nat) : Nat := cntN (fun k => mo I e k && kmk I d k) m
def agB (I : Mem) (d e : Nat) : Nat → Bool
  | 0 => true
  | k + 1 => if mo I e k && kmk I d k then agB I d e k && agP I d k (I (30, 0, 0, 0) 0) else agB I d e k
theorem agN_le (I : Mem) (d e m : Nat) : agN I d e m ≤ m := cntN_le _ _
def lasI (I : Mem) (d e : Nat) : Nat → Int32
  | 0 => 0
  | k + 1 => if mo I e k && kmk I d k then imax (lasI I d e k) (I (42, 0, 0, 0) (6 * k + d)) else lasI I d e k
def tel (I : Mem) (d e f : Nat) : Nat → Nat → Nat → Nat
  | 0, _, _ => 6
  | n + 1, k, left => if 0 < I (35, 0, 0, 0) (24 * (10 * d + e) + 6 * f + k) then (if left = 0 then k else tel I d e f n (k + 1) (left - 1)) else tel I d e f n (k + 1) left
