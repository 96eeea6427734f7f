/-! the reference: its public methods -/
def knwB (I : Mem) (n : Nat) (x y : Int32) : Bool := isDev x && (isEnt n y && nz (I (34, 0, 0, 0) (10 * x.toNatClampNeg + y.toNatClampNeg)))
theorem knwB_nI {I : Mem} {n d e : Nat} (hn10 : n ≤ 10) (hd : d < 6) (he : e < n) : knwB I n (nI d) (nI e) = nz (I (34, 0, 0, 0) (10 * d + e)) := by
  unfold knwB
  rw [isDev_nI hd, isEnt_nI hn10 he, nI_clamp (by omega), nI_clamp (by omega), Bool.true_and, Bool.true_and]
def mEntM (I : Mem) (d n : Nat) : Mem := sset (sset (sset (thM I 0) (32, 0, 0, 0) (upd (I (32, 0, 0, 0)) n (nI (d / 2)))) (34, 0, 0, 0) (upd (I (34, 0, 0, 0)) (10 * d + n) 1)) (30, 0, 0, 0) (upd (thM I 0 (30, 0, 0, 0)) 1 (nI (n + 1)))
def mt0 (I : Mem) (d e f : Nat) : Nat → Int32 := rf (24 * (10 * d + e) + 6 * f) (24 * (10 * d + e) + 6 * f + 6) z0 (I (35, 0, 0, 0))
def mt1 (I : Mem) (d e f : Nat) : Mem := sset (sset (sset (thM I 0) (35, 0, 0, 0) (mt0 I d e f)) (31, 0, 0, 0) (upd (I (31, 0, 0, 0)) d (I (31, 0, 0, 0) d + nI 1))) (37, 0, 0, 0) (upd (I (37, 0, 0, 0)) (24 * (10 * d + e) + 6 * f + d) (I (31, 0, 0, 0) d + nI 1))
def mtlM (I : Mem) (d e f : Nat) (w : Int32) : Mem := if w < 0 then mt1 I d e f else
  sset (sset (mt1 I d e f) (35, 0, 0, 0) (upd (mt0 I d e f) (24 * (10 * d + e) + 6 * f + d) (I (31, 0, 0, 0) d + nI 1))) (36, 0, 0, 0) (upd (I (36, 0, 0, 0)) (24 * (10 * d + e) + 6 * f + d) w)
def mdC (I : Mem) (d e m i : Nat) : Nat → Int32 := rf (24 * m) (24 * m + i) (fun x => I (37, 0, 0, 0) (24 * (10 * d + e) + (x - 24 * m))) (I (41, 0, 0, 0))
def mdlM (I : Mem) (d e m : Nat) : Mem := sset (sset (sset (sset (sset (thM I 0) (31, 0, 0, 0) (upd (I (31, 0, 0, 0)) d (I (31, 0, 0, 0) d + nI 1))) (40, 0, 0, 0) (upd (I (40, 0, 0, 0)) m (nI e))) (41, 0, 0, 0) (mdC I d e m 24)) (42, 0, 0, 0) (upd (I (42, 0, 0, 0)) (6 * m + d) (I (30, 0, 0, 0) 0 + nI 1))) (30, 0, 0, 0) (upd (thM I 0 (30, 0, 0, 0)) 2 (nI (m + 1)))
def shG (F : Int32) (lo : Nat) (r : Nat → Int32) : Nat → Int32 := fun x => if bit F ((x - lo) / 6) then r x else 0
def shR (F : Int32) (q e : Nat) (r : Nat → Int32) : Nat → Nat → Int32
  | 0 => r
  | i + 1 => rf (24 * (10 * (2 * q + i) + e)) (24 * (10 * (2 * q + i) + e) + 24) (shG F (24 * (10 * (2 * q + i) + e)) (shR F q e r i)) (shR F q e r i)
def mshM (I : Mem) (e q : Nat) (F : Int32) : Mem := sset (sset (sset (thM I 0) (33, 0, 0, 0) (upd (I (33, 0, 0, 0)) (3 * e + q) F)) (35, 0, 0, 0) (shR F q e (I (35, 0, 0, 0)) 2)) (37, 0, 0, 0) (shR F q e (I (37, 0, 0, 0)) 2)
theorem rf_n (lo i : Nat) (g f : Nat → Int32) (hv : g (lo + i) = f (lo + i)) : rf lo (lo + i) g f = rf lo (lo + (i + 1)) g f := by
  funext c
  simp only [rf]
  by_cases h : lo ≤ c ∧ c < lo + i
  · rw [if_pos h, if_pos (by omega)]
  · rw [if_neg h]
    by_cases h2 : c = lo + i
    · subst h2
      rw [if_pos (by omega), hv]
    · rw [if_neg (by omega)]
def mstR (I : Mem) (d e m : Nat) : Nat := if I (34, 0, 0, 0) (10 * d + e) = 0 then 0 else if thr I d e m then 1 else if cvt I d e m then 2 else 3
theorem nI_dec {a : Nat} (h : 0 < a) : nI a + Int32.ofInt (-1) = nI (a - 1) := by
  have e : nI a = nI (a - 1) + nI 1 := by rw [nI_add, Nat.sub_add_cancel h]
  rw [e]
  have e2 : (Int32.ofInt (-1)) = - nI 1 := by decide
  rw [e2, ← Int32.sub_eq_add_neg]
  exact Int32.add_sub_cancel ..
theorem tel_n {I : Mem} {d e f k left : Nat} (hq : ¬ 0 < I (35, 0, 0, 0) (24 * (10 * d + e) + 6 * f + k)) (hk : k < 6) : tel I d e f (6 - k) k left = tel I d e f (6 - (k + 1)) (k + 1) left := by
  rw [show 6 - k = (6 - (k + 1)) + 1 by omega, tel, if_neg hq]
theorem tel_y1 {I : Mem} {d e f k left : Nat} (hq : 0 < I (35, 0, 0, 0) (24 * (10 * d + e) + 6 * f + k)) (hk : k < 6) (hl : 0 < left) : tel I d e f (6 - k) k left = tel I d e f (6 - (k + 1)) (k + 1) (left - 1) := by
  rw [show 6 - k = (6 - (k + 1)) + 1 by omega, tel, if_pos hq, if_neg (by omega)]
theorem tel_y0 {I : Mem} {d e f k left : Nat} (hq : 0 < I (35, 0, 0, 0) (24 * (10 * d + e) + 6 * f + k)) (hk : k < 6) (hl : left = 0) : tel I d e f (6 - k) k left = k := by
  rw [show 6 - k = (6 - (k + 1)) + 1 by omega, tel, if_pos hq, if_pos hl]
theorem tel_le {I : Mem} {d e f : Nat} : ∀ n k left, k + n = 6 → tel I d e f n k left ≤ 6
  | 0, k, left, _ => Nat.le_refl 6
  | n + 1, k, left, h => by
    rw [tel]
    split
    · split
      · omega
      · exact tel_le n (k + 1) (left - 1) (by omega)
    · exact tel_le n (k + 1) left (by omega)
def mvlI (I : Mem) (d e f j : Nat) : Int32 := I (36, 0, 0, 0) (24 * (10 * d + e) + 6 * f + tel I d e f 6 0 j)
def mmkR (I : Mem) (d e m : Nat) : Int32 := if agN I d e m = 0 then nI 0 else if I (30, 0, 0, 0) 0 + nI 1 - lasI I d e m ≤ nI 99 then nI (100 * agN I d e m) + (I (30, 0, 0, 0) 0 + nI 1 - lasI I d e m) else nI (100 * agN I d e m + 99)
/-- clashes of the first fields, of the first entries -/
def mclE (I : Mem) (d k m : Nat) : Nat → Nat
  | 0 => 0
  | f + 1 => mclE I d k m f + if thr I d k m && decide (1 < cnF I d k f) then 1 else 0
def mclN (I : Mem) (d m : Nat) : Nat → Nat
  | 0 => 0
  | k + 1 => mclN I d m k + mclE I d k m 4
def magP (I : Mem) (d o k m f : Nat) : Bool := mayB I d k f && (mayB I o k f && (thr I d k m || thr I o k m))
def magE (I : Mem) (d o k m : Nat) : Nat → Nat
  | 0 => 0
  | f + 1 => magE I d o k m f + if magP I d o k m f then 1 else 0
def magA (I : Mem) (d o m : Nat) : Nat → Nat
  | 0 => 0
  | k + 1 => magA I d o m k + magE I d o k m 4
def masE (I : Mem) (d o k m : Nat) : Nat → Nat
  | 0 => 0
  | f + 1 => masE I d o k m f + if magP I d o k m f && samB I d o k f then 1 else 0
def masA (I : Mem) (d o m : Nat) : Nat → Nat
  | 0 => 0
  | k + 1 => masA I d o m k + masE I d o k m 4
theorem mclE_le {I : Mem} {d k m : Nat} : ∀ f, mclE I d k m f ≤ f
  | 0 => Nat.le_refl 0
  | f + 1 => by
    have h := mclE_le (I := I) (d := d) (k := k) (m := m) f
    rw [mclE]
    split <;> omega
theorem mclN_le {I : Mem} {d m : Nat} : ∀ k, mclN I d m k ≤ 4 * k
  | 0 => Nat.le_refl 0
  | k + 1 => by
    have h := mclN_le (I := I) (d := d) (m := m) k
    have h2 := mclE_le (I := I) (d := d) (k := k) (m := m) 4
    rw [mclN]
    omega
theorem magE_le {I : Mem} {d o k m : Nat} : ∀ f, magE I d o k m f ≤ f
  | 0 => Nat.le_refl 0
  | f + 1 => by
    have h := magE_le (I := I) (d := d) (o := o) (k := k) (m := m) f
    rw [magE]
    split <;> omega
theorem magA_le {I : Mem} {d o m : Nat} : ∀ k, magA I d o m k ≤ 4 * k
  | 0 => Nat.le_refl 0
  | k + 1 => by
    have h := magA_le (I := I) (d := d) (o := o) (m := m) k
    have h2 := magE_le (I := I) (d := d) (o := o) (k := k) (m := m) 4
    rw [magA]
    omega
theorem masE_le {I : Mem} {d o k m : Nat} : ∀ f, masE I d o k m f ≤ f
  | 0 => Nat.le_refl 0
  | f + 1 => by
    have h := masE_le (I := I) (d := d) (o := o) (k := k) (m := m) f
    rw [masE]
    split <;> omega
theorem masA_le {I : Mem} {d o m : Nat} : ∀ k, masA I d o m k ≤ 4 * k
  | 0 => Nat.le_refl 0
  | k + 1 => by
    have h := masA_le (I := I) (d := d) (o := o) (m := m) k
    have h2 := masE_le (I := I) (d := d) (o := o) (k := k) (m := m) 4
    rw [masA]
    omega
theorem th_see {I : Mem} {w : Nat} {k : KN} (h : k.1 ≠ 30) : thM I w k = I k := by
  unfold thM
  rw [sset_ne _ _ (fun q => h (by rw [q]))]
theorem th_30 {I : Mem} {w j : Nat} (h : j ≠ 4) : thM I w (30, 0, 0, 0) j = I (30, 0, 0, 0) j := by
  unfold thM
  rw [sset_eq]
  simp only [upd, if_neg h]
theorem cnF_congr {I J : Mem} (h : J (35, 0, 0, 0) = I (35, 0, 0, 0)) (d e f : Nat) : cnF J d e f = cnF I d e f := by
  unfold cnF
  rw [h]
theorem cnA_congr {I J : Mem} (h : J (35, 0, 0, 0) = I (35, 0, 0, 0)) (d e : Nat) : ∀ n, cnA J d e n = cnA I d e n
  | 0 => rfl
  | n + 1 => by rw [cnA, cnA, cnF_congr h, cnA_congr h d e n]
