/-! the reference: what its methods write -/
def agQ (I : Mem) (d k : Nat) : Bool := !decide (I (30, 0, 0, 0) 0 + nI 1 - I (42, 0, 0, 0) (6 * k + d) ≤ nI 12)
def agC (I : Mem) (d e : Nat) : Nat → Bool
  | 0 => true
  | k + 1 => if mo I e k && kmk I d k then agC I d e k && agQ I d k else agC I d e k
def oldV (I : Mem) (d o e i : Nat) : Int32 := if i = 0 then I (38, 0, 0, 0) (10 * d + e) else bI (!decide (I (38, 0, 0, 0) (10 * d + e) = 0) && allB (oldP I d o e) i)
def oldR (I : Mem) (d o e : Nat) : Bool := !decide (I (38, 0, 0, 0) (10 * d + e) = 0) && allB (oldP I d o e) 24
theorem oldV_z {I : Mem} {d o e i : Nat} : (!decide (oldV I d o e i = 0)) = (!decide (I (38, 0, 0, 0) (10 * d + e) = 0) && allB (oldP I d o e) i) := by
  unfold oldV
  by_cases hi : i = 0
  · rw [if_pos hi, hi, allB, Bool.and_true]
  · rw [if_neg hi]
    cases (!decide (I (38, 0, 0, 0) (10 * d + e) = 0) && allB (oldP I d o e) i) <;> rfl
theorem oldV_s {I : Mem} {d o e i : Nat} : oldV I d o e (i + 1) = bI (!decide (oldV I d o e i = 0) && oldP I d o e i) := by
  rw [oldV_z]
  unfold oldV
  rw [if_neg (by omega), allB, Bool.and_assoc]
/-- forgotten: the note's row and the months' row behind the first marks -/
def mfN (I : Mem) (d e : Nat) : Nat → Nat → Int32
  | 0 => rf (24 * (10 * d + e)) (24 * (10 * d + e) + 24) (gM (I (39, 0, 0, 0)) (I (37, 0, 0, 0))) (I (39, 0, 0, 0))
  | k + 1 => if mo I e k && kmk I d k then rf (24 * (10 * d + e)) (24 * (10 * d + e) + 24) (fun x => imax (mfN I d e k x) (I (41, 0, 0, 0) (24 * k + (x - 24 * (10 * d + e))))) (mfN I d e k) else mfN I d e k
def mfS (I : Mem) (d e i : Nat) : Nat → Int32 := fun x => if x % 6 = d ∧ x / 6 < i ∧ mo I e (x / 6) = true ∧ 0 < I (42, 0, 0, 0) x then 0 else I (42, 0, 0, 0) x
theorem mfS_0 (I : Mem) (d e : Nat) : mfS I d e 0 = I (42, 0, 0, 0) := by
  funext x
  have : ¬ (x % 6 = d ∧ x / 6 < 0 ∧ mo I e (x / 6) = true ∧ 0 < I (42, 0, 0, 0) x) := by omega
  simp only [mfS, if_neg this]
theorem mfS_at {I : Mem} {d e i : Nat} (hd : d < 6) : mfS I d e i (6 * i + d) = I (42, 0, 0, 0) (6 * i + d) := by
  have : ¬ ((6 * i + d) % 6 = d ∧ (6 * i + d) / 6 < i ∧ mo I e ((6 * i + d) / 6) = true ∧ 0 < I (42, 0, 0, 0) (6 * i + d)) := by omega
  simp only [mfS, if_neg this]
theorem mfS_s1 {I : Mem} {d e i : Nat} (hd : d < 6) (h1 : mo I e i = true) (h2 : kmk I d i = true) : upd (mfS I d e i) (6 * i + d) (nI 0) = mfS I d e (i + 1) := by
  funext x
  have h3 : 0 < I (42, 0, 0, 0) (6 * i + d) := of_decide_eq_true h2
  by_cases hx : x = 6 * i + d
  · subst hx
    have e1 : (6 * i + d) / 6 = i := by omega
    have : (6 * i + d) % 6 = d ∧ (6 * i + d) / 6 < i + 1 ∧ mo I e ((6 * i + d) / 6) = true ∧ 0 < I (42, 0, 0, 0) (6 * i + d) := ⟨by omega, by omega, by rw [e1]; exact h1, h3⟩
    simp only [upd, mfS, if_pos this, ↓reduceIte]
    rfl
  · simp only [upd, if_neg hx, mfS]
    by_cases hc : x % 6 = d ∧ x / 6 < i ∧ mo I e (x / 6) = true ∧ 0 < I (42, 0, 0, 0) x
    · rw [if_pos hc, if_pos ⟨hc.1, Nat.lt_succ_of_lt hc.2.1, hc.2.2⟩]
    · rw [if_neg hc, if_neg]
      rintro ⟨q1, q2, q3⟩
      exact hc ⟨q1, by omega, q3⟩
theorem mfS_s2 {I : Mem} {d e i : Nat} (h : mo I e i = false ∨ kmk I d i = false) : mfS I d e i = mfS I d e (i + 1) := by
  funext x
  simp only [mfS]
  by_cases hc : x % 6 = d ∧ x / 6 < i ∧ mo I e (x / 6) = true ∧ 0 < I (42, 0, 0, 0) x
  · rw [if_pos hc, if_pos ⟨hc.1, Nat.lt_succ_of_lt hc.2.1, hc.2.2⟩]
  · rw [if_neg hc, if_neg]
    rintro ⟨q1, q2, q3, q4⟩
    by_cases hi : x / 6 < i
    · exact hc ⟨q1, hi, q3, q4⟩
    · have e1 : x / 6 = i := by omega
      have e2 : x = 6 * i + d := by omega
      rw [e1] at q3
      rcases h with h | h
      · rw [h] at q3; cases q3
      · rw [e2] at q4
        have := of_decide_eq_false h
        exact this q4
theorem rf_s' (lo i : Nat) (g f : Nat → Int32) {v : Int32} (hv : v = g (lo + i)) : upd (rf lo (lo + i) g f) (lo + i) v = rf lo (lo + (i + 1)) g f := rf_s lo i g f hv
abbrev z0 : Nat → Int32 := fun _ => 0
def mforM (I : Mem) (d e m : Nat) : Mem :=
  sset (sset (sset (sset (sset (sset I (39, 0, 0, 0) (mfN I d e m)) (35, 0, 0, 0) (rf (24 * (10 * d + e)) (24 * (10 * d + e) + 24) z0 (I (35, 0, 0, 0)))) (37, 0, 0, 0) (rf (24 * (10 * d + e)) (24 * (10 * d + e) + 24) z0 (I (37, 0, 0, 0)))) (42, 0, 0, 0) (mfS I d e m)) (38, 0, 0, 0) (upd (I (38, 0, 0, 0)) (10 * d + e) (nI 1))) (34, 0, 0, 0) (upd (I (34, 0, 0, 0)) (10 * d + e) (nI 0))
/-- one cell merged -/
def mgF (a b sq : Int32) : Bool := !decide (a ≤ 0) && (decide (a = b) || !decide (a ≤ sq))
def mgS (a b sp : Int32) : Bool := !decide (b ≤ 0) && (decide (a = b) || !decide (b ≤ sp))
def mgA (a b sp sq : Int32) : Int32 := if mgF a b sq then a else if mgS a b sp then b else nI 0
def mgV (a b sq v w : Int32) : Int32 := if mgF a b sq then v else w
def mgX (s a : Int32) : Bool := !decide (s ≤ 0) && !decide (s = a)
def mgsA (I : Mem) (p q : Nat) : Int32 := mgA (I (35, 0, 0, 0) p) (I (35, 0, 0, 0) q) (I (37, 0, 0, 0) p) (I (37, 0, 0, 0) q)
def mgsV (I : Mem) (p q : Nat) : Int32 := mgV (I (35, 0, 0, 0) p) (I (35, 0, 0, 0) q) (I (37, 0, 0, 0) q) (I (36, 0, 0, 0) p) (I (36, 0, 0, 0) q)
def mgsG (I : Mem) (p q : Nat) : Int32 := I (30, 0, 0, 0) 3 + bI (mgX (mgsA I p q) (I (35, 0, 0, 0) p)) + bI (mgX (mgsA I p q) (I (35, 0, 0, 0) q))
def mgsM (I : Mem) (p q : Nat) : Mem :=
  sset (sset (sset (sset I (30, 0, 0, 0) (upd (I (30, 0, 0, 0)) 3 (mgsG I p q))) (35, 0, 0, 0) (upd (upd (I (35, 0, 0, 0)) p (mgsA I p q)) q (mgsA I p q))) (36, 0, 0, 0) (upd (upd (I (36, 0, 0, 0)) p (mgsV I p q)) q (mgsV I p q))) (37, 0, 0, 0) (upd (upd (I (37, 0, 0, 0)) p (imax (I (37, 0, 0, 0) p) (I (37, 0, 0, 0) q))) q (imax (I (37, 0, 0, 0) p) (I (37, 0, 0, 0) q)))
def lrnM (I : Mem) (d k : Nat) : Mem := if kmk I d k then I else sset I (42, 0, 0, 0) (upd (I (42, 0, 0, 0)) (6 * k + d) (I (30, 0, 0, 0) 0 + nI 1))
/-- the first cells of a field merged, the first fields, the first marks -/
def jfM (I : Mem) (d o e f : Nat) : Nat → Mem
  | 0 => I
  | k + 1 => mgsM (jfM I d o e f k) (24 * (10 * d + e) + 6 * f + k) (24 * (10 * o + e) + 6 * f + k)
def jnM (I : Mem) (d o e : Nat) : Nat → Mem
  | 0 => I
  | f + 1 => if shP I d o e f then jfM (jnM I d o e f) d o e f 6 else jnM I d o e f
def jlM (I : Mem) (d o e : Nat) : Nat → Mem
  | 0 => I
  | k + 1 => if mo I e k && (kmk (jlM I d o e k) d k || kmk (jlM I d o e k) o k) then lrnM (lrnM (jlM I d o e k) d k) o k else jlM I d o e k
def kboM (I : Mem) (d o e : Nat) : Mem := sset I (34, 0, 0, 0) (upd (upd (I (34, 0, 0, 0)) (10 * d + e) (nI 1)) (10 * o + e) (nI 1))
def joiM (I : Mem) (d o e m : Nat) : Mem := jlM (jnM (kboM I d o e) d o e 4) d o e m
/-- kinds that a cell's merging leaves as they are -/
theorem mgs_see {I : Mem} {p q : Nat} {k : KN} (h30 : k.1 ≠ 30) (h35 : k.1 ≠ 35) (h36 : k.1 ≠ 36) (h37 : k.1 ≠ 37) : mgsM I p q k = I k := by
  unfold mgsM
  rw [sset_ne _ _ (fun q => h37 (by rw [q])), sset_ne _ _ (fun q => h36 (by rw [q])), sset_ne _ _ (fun q => h35 (by rw [q])), sset_ne _ _ (fun q => h30 (by rw [q]))]
theorem mgs_30 {I : Mem} {p q j : Nat} (hj : j ≠ 3) : mgsM I p q (30, 0, 0, 0) j = I (30, 0, 0, 0) j := by
  unfold mgsM
  rw [sset_ne _ _ (nek (by decide)), sset_ne _ _ (nek (by decide)), sset_ne _ _ (nek (by decide)), sset_eq]
  simp only [upd, if_neg hj]
theorem jf_see {I : Mem} {d o e f : Nat} {k : KN} (h30 : k.1 ≠ 30) (h35 : k.1 ≠ 35) (h36 : k.1 ≠ 36) (h37 : k.1 ≠ 37) : ∀ n, jfM I d o e f n k = I k
  | 0 => rfl
  | n + 1 => by rw [jfM, mgs_see h30 h35 h36 h37, jf_see h30 h35 h36 h37 n]
theorem jf_30 {I : Mem} {d o e f j : Nat} (hj : j ≠ 3) : ∀ n, jfM I d o e f n (30, 0, 0, 0) j = I (30, 0, 0, 0) j
  | 0 => rfl
  | n + 1 => by rw [jfM, mgs_30 hj, jf_30 hj n]
theorem jn_see {I : Mem} {d o e : Nat} {k : KN} (h30 : k.1 ≠ 30) (h35 : k.1 ≠ 35) (h36 : k.1 ≠ 36) (h37 : k.1 ≠ 37) : ∀ n, jnM I d o e n k = I k
  | 0 => rfl
  | n + 1 => by
    rw [jnM]
    split
    · rw [jf_see h30 h35 h36 h37, jn_see h30 h35 h36 h37 n]
    · exact jn_see h30 h35 h36 h37 n
theorem jn_30 {I : Mem} {d o e j : Nat} (hj : j ≠ 3) : ∀ n, jnM I d o e n (30, 0, 0, 0) j = I (30, 0, 0, 0) j
  | 0 => rfl
  | n + 1 => by
    rw [jnM]
    split
    · rw [jf_30 hj, jn_30 hj n]
    · exact jn_30 hj n
theorem lrn_see {I : Mem} {d j : Nat} {k : KN} (h : k.1 ≠ 42) : lrnM I d j k = I k := by
  unfold lrnM
  split
  · rfl
  · rw [sset_ne _ _ (fun q => h (by rw [q]))]
theorem jl_see {I : Mem} {d o e : Nat} {k : KN} (h : k.1 ≠ 42) : ∀ n, jlM I d o e n k = I k
  | 0 => rfl
  | n + 1 => by
    rw [jlM]
    split
    · rw [lrn_see h, lrn_see h, jl_see h n]
    · exact jl_see h n
theorem kbo_see {I : Mem} {d o e : Nat} {k : KN} (h : k.1 ≠ 34) : kboM I d o e k = I k := by
  unfold kboM
  rw [sset_ne _ _ (fun q => h (by rw [q]))]
theorem joi_30 {I : Mem} {d o e m j : Nat} (hj : j ≠ 3) : joiM I d o e m (30, 0, 0, 0) j = I (30, 0, 0, 0) j := by
  unfold joiM
  rw [jl_see (by decide), jn_30 hj, kbo_see (by decide)]
theorem mfor_see {I : Mem} {d e m : Nat} {k : KN} (h34 : k.1 ≠ 34) (h35 : k.1 ≠ 35) (h37 : k.1 ≠ 37) (h38 : k.1 ≠ 38) (h39 : k.1 ≠ 39) (h42 : k.1 ≠ 42) : mforM I d e m k = I k := by
  unfold mforM
  rw [sset_ne _ _ (fun q => h34 (by rw [q])), sset_ne _ _ (fun q => h38 (by rw [q])), sset_ne _ _ (fun q => h42 (by rw [q])), sset_ne _ _ (fun q => h37 (by rw [q])), sset_ne _ _ (fun q => h35 (by rw [q])), sset_ne _ _ (fun q => h39 (by rw [q]))]
theorem may_congr {I J : Mem} (h2 : J (32, 0, 0, 0) = I (32, 0, 0, 0)) (h3 : J (33, 0, 0, 0) = I (33, 0, 0, 0)) (d e f : Nat) : mayB J d e f = mayB I d e f := by
  unfold mayB
  rw [h2, h3]
/-- notes merged -/
def ntH (I : Mem) (d o e : Nat) : Bool := !decide (I (38, 0, 0, 0) (10 * d + e) = 0) || !decide (I (38, 0, 0, 0) (10 * o + e) = 0)
def ntN (I : Mem) (d o e i : Nat) : Nat → Int32 := rf (24 * (10 * o + e)) (24 * (10 * o + e) + i) (fun x => imax (I (39, 0, 0, 0) (24 * (10 * d + e) + (x - 24 * (10 * o + e)))) (I (39, 0, 0, 0) x)) (rf (24 * (10 * d + e)) (24 * (10 * d + e) + i) (fun x => imax (I (39, 0, 0, 0) x) (I (39, 0, 0, 0) (24 * (10 * o + e) + (x - 24 * (10 * d + e))))) (I (39, 0, 0, 0)))
theorem ntN_0 (I : Mem) (d o e : Nat) : ntN I d o e 0 = I (39, 0, 0, 0) := by
  unfold ntN
  rw [Nat.add_zero, Nat.add_zero, rf_0, rf_0]
theorem ntN_a1 {I : Mem} {d o e i : Nat} (he : e < 10) (hi : i < 24) (hne : d ≠ o) : ntN I d o e i (24 * (10 * d + e) + i) = I (39, 0, 0, 0) (24 * (10 * d + e) + i) := by
  have h1 : ¬ (24 * (10 * o + e) ≤ 24 * (10 * d + e) + i ∧ 24 * (10 * d + e) + i < 24 * (10 * o + e) + i) := by omega
  have h2 : ¬ (24 * (10 * d + e) ≤ 24 * (10 * d + e) + i ∧ 24 * (10 * d + e) + i < 24 * (10 * d + e) + i) := by omega
  simp only [ntN, rf, if_neg h1, if_neg h2]
theorem ntN_a2 {I : Mem} {d o e i : Nat} (he : e < 10) (hi : i < 24) (hne : d ≠ o) : ntN I d o e i (24 * (10 * o + e) + i) = I (39, 0, 0, 0) (24 * (10 * o + e) + i) := by
  have h1 : ¬ (24 * (10 * o + e) ≤ 24 * (10 * o + e) + i ∧ 24 * (10 * o + e) + i < 24 * (10 * o + e) + i) := by omega
  have h2 : ¬ (24 * (10 * d + e) ≤ 24 * (10 * o + e) + i ∧ 24 * (10 * o + e) + i < 24 * (10 * d + e) + i) := by omega
  simp only [ntN, rf, if_neg h1, if_neg h2]
theorem ntN_s {I : Mem} {d o e i : Nat} (he : e < 10) (hi : i < 24) (hne : d ≠ o) {v : Int32} (hv : v = imax (I (39, 0, 0, 0) (24 * (10 * d + e) + i)) (I (39, 0, 0, 0) (24 * (10 * o + e) + i))) : upd (upd (ntN I d o e i) (24 * (10 * d + e) + i) v) (24 * (10 * o + e) + i) v = ntN I d o e (i + 1) := by
  subst hv
  funext x
  simp only [upd, ntN, rf]
  by_cases h1 : x = 24 * (10 * o + e) + i
  · subst h1
    have h3 : 24 * (10 * o + e) ≤ 24 * (10 * o + e) + i ∧ 24 * (10 * o + e) + i < 24 * (10 * o + e) + (i + 1) := by omega
    rw [if_pos rfl, if_pos h3, Nat.add_sub_cancel_left]
  · rw [if_neg h1]
    by_cases h2 : x = 24 * (10 * d + e) + i
    · subst h2
      have h3 : ¬ (24 * (10 * o + e) ≤ 24 * (10 * d + e) + i ∧ 24 * (10 * d + e) + i < 24 * (10 * o + e) + (i + 1)) := by omega
      have h4 : 24 * (10 * d + e) ≤ 24 * (10 * d + e) + i ∧ 24 * (10 * d + e) + i < 24 * (10 * d + e) + (i + 1) := by omega
      rw [if_pos rfl, if_neg h3, if_pos h4, Nat.add_sub_cancel_left]
    · rw [if_neg h2]
      have e1 : (24 * (10 * o + e) ≤ x ∧ x < 24 * (10 * o + e) + (i + 1)) ↔ (24 * (10 * o + e) ≤ x ∧ x < 24 * (10 * o + e) + i) := by omega
      have e2 : (24 * (10 * d + e) ≤ x ∧ x < 24 * (10 * d + e) + (i + 1)) ↔ (24 * (10 * d + e) ≤ x ∧ x < 24 * (10 * d + e) + i) := by omega
      simp only [e1, e2]
def notM (I : Mem) (d o e : Nat) : Mem := sset (if ntH I d o e then sset I (39, 0, 0, 0) (ntN I d o e 24) else I) (38, 0, 0, 0) (upd (upd (I (38, 0, 0, 0)) (10 * d + e) (bI (ntH I d o e))) (10 * o + e) (bI (ntH I d o e)))
theorem not_see {I : Mem} {d o e : Nat} {k : KN} (h38 : k.1 ≠ 38) (h39 : k.1 ≠ 39) : notM I d o e k = I k := by
  unfold notM
  rw [sset_ne _ _ (fun q => h38 (by rw [q]))]
  split
  · rw [sset_ne _ _ (fun q => h39 (by rw [q]))]
  · rfl
