/-! the law's own state told by the rows of the reference: X; LL X has the law's small arrays, too -/
def kcode (X : Mem) : Nat → Int32 := fun x => X (34, 0, 0, 0) (10 * (x / 2) + x % 2) + nI 2 * X (38, 0, 0, 0) (10 * (x / 2) + x % 2)
def wcode (X : Mem) : Nat → Int32 := fun x => if x % 4 = 0 then X (32, 0, 0, 0) (x / 4) else X (33, 0, 0, 0) (3 * (x / 4) + (x % 4 - 1))
def gcode (X : Mem) : Nat → Int32 := fun x => if x = 0 then X (30, 0, 0, 0) 1 else if x = 1 then X (30, 0, 0, 0) 0 else if x = 2 then X (30, 0, 0, 0) 2 else X (31, 0, 0, 0) (x - 3)
def LL (X : Mem) : Mem := sset (sset (sset X (43, 0, 0, 0) (kcode X)) (44, 0, 0, 0) (wcode X)) (45, 0, 0, 0) (gcode X)
theorem LL_see {X : Mem} {k : KN} (h : k.1 < 43) : LL X k = X k := by
  unfold LL
  rw [sset_ne _ _ (fun q => by rw [q] at h; exact absurd h (by decide)), sset_ne _ _ (fun q => by rw [q] at h; exact absurd h (by decide)), sset_ne _ _ (fun q => by rw [q] at h; exact absurd h (by decide))]
theorem LL_43 {X : Mem} : LL X (43, 0, 0, 0) = kcode X := by
  unfold LL
  rw [sset_ne _ _ (nek (by decide)), sset_ne _ _ (nek (by decide)), sset_eq]
theorem LL_44 {X : Mem} : LL X (44, 0, 0, 0) = wcode X := by
  unfold LL
  rw [sset_ne _ _ (nek (by decide)), sset_eq]
theorem LL_45 {X : Mem} : LL X (45, 0, 0, 0) = gcode X := sset_eq _ _ _
theorem kc_at {X : Mem} {d e : Nat} (he : e < 2) : LL X (43, 0, 0, 0) (2 * d + e) = X (34, 0, 0, 0) (10 * d + e) + nI 2 * X (38, 0, 0, 0) (10 * d + e) := by
  rw [LL_43]
  unfold kcode
  rw [show (2 * d + e) / 2 = d by omega, show (2 * d + e) % 2 = e by omega]
theorem wc_ow {X : Mem} {e : Nat} : LL X (44, 0, 0, 0) (4 * e) = X (32, 0, 0, 0) e := by
  rw [LL_44]
  unfold wcode
  rw [if_pos (by omega), show 4 * e / 4 = e by omega]
theorem wc_sh {X : Mem} {e q : Nat} (hq : q < 3) : LL X (44, 0, 0, 0) (4 * e + 1 + q) = X (33, 0, 0, 0) (3 * e + q) := by
  rw [LL_44]
  unfold wcode
  rw [if_neg (by omega), show (4 * e + 1 + q) / 4 = e by omega, show (4 * e + 1 + q) % 4 - 1 = q by omega]
theorem gc_0 {X : Mem} : LL X (45, 0, 0, 0) 0 = X (30, 0, 0, 0) 1 := by rw [LL_45]; rfl
theorem gc_1 {X : Mem} : LL X (45, 0, 0, 0) 1 = X (30, 0, 0, 0) 0 := by rw [LL_45]; rfl
theorem gc_2 {X : Mem} : LL X (45, 0, 0, 0) 2 = X (30, 0, 0, 0) 2 := by rw [LL_45]; rfl
theorem gc_a {X : Mem} {d : Nat} : LL X (45, 0, 0, 0) (3 + d) = X (31, 0, 0, 0) d := by
  rw [LL_45]
  unfold gcode
  rw [if_neg (by omega), if_neg (by omega), if_neg (by omega), Nat.add_sub_cancel_left]
/-- all numbers of the sets are small -/
def BR (X : Mem) : Prop := (∀ x, sm6 (X (35, 0, 0, 0) x)) ∧ (∀ x, sm6 (X (37, 0, 0, 0) x)) ∧ (∀ x, sm6 (X (39, 0, 0, 0) x)) ∧ (∀ x, sm6 (X (41, 0, 0, 0) x))
/-- since when, as a month and one -/
def TR (X : Mem) : Prop := ∀ x, 0 ≤ (X (42, 0, 0, 0) x).toInt ∧ (X (42, 0, 0, 0) x).toInt ≤ 20001
def K01 (X : Mem) : Prop := ∀ x, ∃ a b : Nat, a < 2 ∧ b < 2 ∧ X (34, 0, 0, 0) x = nI a ∧ X (38, 0, 0, 0) x = nI b
def NR (X : Mem) (n m t : Nat) : Prop := X (30, 0, 0, 0) 1 = nI n ∧ X (30, 0, 0, 0) 0 = nI t ∧ X (30, 0, 0, 0) 2 = nI m
theorem K01.at {X : Mem} (h : K01 X) {d e : Nat} (he : e < 2) : ∃ a b : Nat, a < 2 ∧ b < 2 ∧ X (34, 0, 0, 0) (10 * d + e) = nI a ∧ X (38, 0, 0, 0) (10 * d + e) = nI b ∧ LL X (43, 0, 0, 0) (2 * d + e) = nI (a + 2 * b) := by
  obtain ⟨a, b, ha, hb, h1, h2⟩ := h (10 * d + e)
  refine ⟨a, b, ha, hb, h1, h2, ?_⟩
  rw [kc_at he, h1, h2, nI_mul, nI_add]
theorem allB_24 (p : Nat → Bool) : allB p 24 = allB (fun f => allB (fun k => p (6 * f + k)) 6) 4 := by
  rw [Bool.eq_iff_iff, allB_iff, allB_iff]
  constructor
  · intro h f hf
    exact allB_t (fun k hk => h _ (by omega))
  · intro h c hc
    have := allB_of (h (c / 6) (by omega)) (c % 6) (by omega)
    rw [show 6 * (c / 6) + c % 6 = c by omega] at this
    exact this
theorem allB_n {p : Nat → Bool} {n : Nat} {b : Bool} (h : p n = b) : allB p (n + 1) = (allB p n && b) := by rw [allB, h]
theorem nz_nI {a : Nat} (h : a < 2 ^ 31) : (nI a = 0) ↔ a = 0 := by
  rw [show (0 : Int32) = nI 0 from rfl]
  exact nI_eq h (by decide)
/-- the six of a field -/
theorem cvm_f (X : Mem) (k d e : Nat) : cvm X k d e = allB (fun f => cvr (rw6 (X (41, 0, 0, 0)) (24 * k + 6 * f)) (rw6 (X (35, 0, 0, 0)) (24 * (10 * d + e) + 6 * f))) 4 := by
  unfold cvm
  rw [allB_24]
  refine allB_congr (fun f hf => allB_congr (fun j hj => ?_))
  show cvP X k d e (6 * f + j) = !decide (X (41, 0, 0, 0) (24 * k + 6 * f + j) < X (35, 0, 0, 0) (24 * (10 * d + e) + 6 * f + j))
  unfold cvP
  rw [Nat.add_assoc, Nat.add_assoc]
theorem old_f (X : Mem) (d o e : Nat) : allB (oldP X d o e) 24 = allB (fun f => cvr (rw6 (X (39, 0, 0, 0)) (24 * (10 * d + e) + 6 * f)) (rw6 (X (35, 0, 0, 0)) (24 * (10 * o + e) + 6 * f))) 4 := by
  rw [allB_24]
  refine allB_congr (fun f hf => allB_congr (fun j hj => ?_))
  show oldP X d o e (6 * f + j) = !decide (X (39, 0, 0, 0) (24 * (10 * d + e) + 6 * f + j) < X (35, 0, 0, 0) (24 * (10 * o + e) + 6 * f + j))
  unfold oldP
  rw [Nat.add_assoc, Nat.add_assoc]
theorem mo_t {X : Mem} {e k : Nat} (h : X (40, 0, 0, 0) k = nI e) : mo X e k = true := decide_eq_true h
theorem mo_f {X : Mem} {e k : Nat} (h : ¬ X (40, 0, 0, 0) k = nI e) : mo X e k = false := decide_eq_false h
theorem kmk_t {X : Mem} {d k : Nat} (h : ¬ X (42, 0, 0, 0) (6 * k + d) ≤ 0) : kmk X d k = true := decide_eq_true (not_le_lt h)
theorem kmk_f {X : Mem} {d k : Nat} (h : X (42, 0, 0, 0) (6 * k + d) ≤ 0) : kmk X d k = false := decide_eq_false (le_not_lt h)
theorem lb_t {v : Bool} (h : v = true) : nI 1 = bI v := by rw [h]; rfl
theorem lb_f {v : Bool} (h : v = false) : nI 0 = bI v := by rw [h]; rfl
