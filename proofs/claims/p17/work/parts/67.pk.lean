/-! six small numbers in a long -/
/-- small: 0 to 63 -/
def sm6 (x : Int32) : Prop := 0 ≤ x.toInt ∧ x.toInt < 64
theorem sm6_nI {x : Int32} (h : sm6 x) : x = nI x.toInt.toNat ∧ x.toInt.toNat < 64 := by
  obtain ⟨h0, h1⟩ := h
  refine ⟨i_ext ?_, by omega⟩
  rw [i_nI (by omega)]
  omega
theorem sm6_of {a : Nat} (h : a < 64) : sm6 (nI a) := by
  unfold sm6
  rw [i_nI (by omega)]
  omega
theorem lp_sh : ∀ k, k < 6 → (((nI (6 * k)).toInt64 &&& 63).toBitVec.smod 64).toNat = 6 * k := by decide +kernel
theorem lp_bv : ∀ a, a < 64 → (nI a).toInt64.toBitVec = BitVec.ofNat 64 a := by decide +kernel
theorem lp_shl {k : Nat} (hk : k < 6) {a : Nat} (ha : a < 64) : ((nI a).toInt64 <<< ((nI (6 * k)).toInt64 &&& 63)).toBitVec = BitVec.ofNat 64 a <<< (6 * k) := by
  rw [Int64.toBitVec_shiftLeft]
  show (nI a).toInt64.toBitVec <<< (((nI (6 * k)).toInt64 &&& 63).toBitVec.smod 64).toNat = _
  rw [lp_sh k hk, lp_bv a ha]
theorem lp_bit {w : Nat → Nat} (hw : ∀ k, k < 6 → w k < 64) {v : Nat → Int32} (hv : ∀ k, k < 6 → v k = nI (w k)) : ∀ n, n ≤ 6 → ∀ i, i < 64 → (pkS v n).toBitVec.getLsbD i = (decide (i < 6 * n) && (w (i / 6)).testBit (i % 6))
  | 0, _, i, _ => by
    show (0 : Int64).toBitVec.getLsbD i = _
    simp
  | n + 1, hn, i, hi => by
    have ih := lp_bit hw hv n (by omega) i hi
    have hw1 := hw n (by omega)
    show (pkS v n ||| (v n).toInt64 <<< ((nI (6 * n)).toInt64 &&& 63)).toBitVec.getLsbD i = _
    rw [Int64.toBitVec_or, BitVec.getLsbD_or, ih, hv n (by omega), lp_shl (by omega) hw1, BitVec.getLsbD_shiftLeft, BitVec.getLsbD_ofNat]
    rcases Nat.lt_or_ge i (6 * n) with h | h
    · simp [h, show i < 6 * (n + 1) by omega]
    · rcases Nat.lt_or_ge i (6 * (n + 1)) with h2 | h2
      · have e1 : i / 6 = n := by omega
        have e2 : i % 6 = i - 6 * n := by omega
        rw [e1, e2]
        simp [hi, Nat.not_lt.mpr h, h2, show i - 6 * n < 64 by omega]
      · have e3 : (w n).testBit (i - 6 * n) = false := Nat.testBit_lt_two_pow (Nat.lt_of_lt_of_le (show w n < 2 ^ 6 from hw1) (Nat.pow_le_pow_right (show 2 > 0 by decide) (show 6 ≤ i - 6 * n by omega)))
        simp [Nat.not_lt.mpr h, Nat.not_lt.mpr h2, e3]
theorem lp_63 : ∀ i, i < 64 → (63 : Int64).toBitVec.getLsbD i = decide (i < 6) := by decide +kernel
theorem lp_se (Y : BitVec 64) {i : Nat} (hi : i < 32) : (Y.signExtend 32).getLsbD i = Y.getLsbD i := by
  rw [BitVec.getLsbD_signExtend]
  simp [hi, show i < 64 by omega]
theorem lp_get {v : Nat → Int32} (hv : ∀ k, k < 6 → sm6 (v k)) {k : Nat} (hk : k < 6) : ((pk v >>> ((nI (6 * k)).toInt64 &&& 63)) &&& 63).toInt32 = v k := by
  have hb := lp_bit (w := fun k => (v k).toInt.toNat) (v := v) (fun k hk => (sm6_nI (hv k hk)).2) (fun k hk => (sm6_nI (hv k hk)).1) 6 (Nat.le_refl 6)
  rw [show v k = nI (v k).toInt.toNat from (sm6_nI (hv k hk)).1]
  have ha := (sm6_nI (hv k hk)).2
  apply Int32.toBitVec_inj.mp
  apply BitVec.eq_of_getLsbD_eq
  intro i hi
  rw [Int64.toBitVec_toInt32, lp_se _ hi, Int64.toBitVec_and, BitVec.getLsbD_and, Int64.toBitVec_shiftRight]
  show ((((pk v).toBitVec.sshiftRight (((nI (6 * k)).toInt64 &&& 63).toBitVec.smod 64).toNat).getLsbD i && (63 : Int64).toBitVec.getLsbD i)) = (BitVec.ofNat 32 (v k).toInt.toNat).getLsbD i
  rw [lp_sh k hk, BitVec.getLsbD_sshiftRight, lp_63 i (by omega), BitVec.getLsbD_ofNat]
  rcases Nat.lt_or_ge i 6 with h | h
  · have hb2 := hb (6 * k + i) (by omega)
    have e1 : (6 * k + i) / 6 = k := by omega
    have e2 : (6 * k + i) % 6 = i := by omega
    rw [e1, e2] at hb2
    rw [if_pos (by omega), show (pk v).toBitVec.getLsbD (6 * k + i) = _ from hb2]
    simp [h, hi, show 6 * k + i < 36 by omega, show ¬ (64 ≤ i) by omega]
  · have e3 : (v k).toInt.toNat.testBit i = false := Nat.testBit_lt_two_pow (Nat.lt_of_lt_of_le (show (v k).toInt.toNat < 2 ^ 6 from ha) (Nat.pow_le_pow_right (show 2 > 0 by decide) h))
    rw [e3, decide_eq_false (Nat.not_lt.mpr h), Bool.and_false, Bool.and_false]
theorem pkS_congr {u v : Nat → Int32} : ∀ n, (∀ k, k < n → u k = v k) → pkS u n = pkS v n
  | 0, _ => rfl
  | n + 1, h => by
    show pkS u n ||| (u n).toInt64 <<< _ = pkS v n ||| (v n).toInt64 <<< _
    rw [pkS_congr n (fun k hk => h k (by omega)), h n (Nat.lt_succ_self n)]
theorem lp_congr {u v : Nat → Int32} (h : ∀ k, k < 6 → u k = v k) : pk u = pk v := pkS_congr 6 h
theorem lp_inj {u v : Nat → Int32} (hu : ∀ k, k < 6 → sm6 (u k)) (hv : ∀ k, k < 6 → sm6 (v k)) (h : pk u = pk v) : ∀ k, k < 6 → u k = v k := fun k hk => by
  rw [← lp_get hu hk, ← lp_get hv hk, h]
theorem lp_eq {u v : Nat → Int32} (hu : ∀ k, k < 6 → sm6 (u k)) (hv : ∀ k, k < 6 → sm6 (v k)) : pk u = pk v ↔ ∀ k, k < 6 → u k = v k := ⟨lp_inj hu hv, lp_congr⟩
theorem sh_zero : ∀ k, k < 6 → (0 : Int32).toInt64 <<< ((nI (6 * k)).toInt64 &&& 63) = 0 := by decide +kernel
theorem lp_zero : pk (fun _ => 0) = 0 := by decide +kernel
/-- one number alone -/
def one6 (d : Nat) (x : Int32) : Nat → Int32 := fun k => if k = d then x else 0
theorem or_z (x : Int64) : x ||| 0 = x := by
  apply Int64.toBitVec_inj.mp
  rw [Int64.toBitVec_or]
  simp
theorem z_or (x : Int64) : 0 ||| x = x := by
  apply Int64.toBitVec_inj.mp
  rw [Int64.toBitVec_or]
  simp
theorem lp_one {d : Nat} {x : Int32} (hd : d < 6) : x.toInt64 <<< ((nI (6 * d)).toInt64 &&& 63) = pk (one6 d x) := by
  have key : ∀ n, n ≤ 6 → pkS (one6 d x) n = if d < n then x.toInt64 <<< ((nI (6 * d)).toInt64 &&& 63) else 0 := by
    intro n
    induction n with
    | zero => intro _; simp [pkS]
    | succ n ih =>
      intro hn
      show pkS (one6 d x) n ||| (one6 d x n).toInt64 <<< ((nI (6 * n)).toInt64 &&& 63) = _
      rw [ih (by omega)]
      by_cases q : n = d
      · subst q
        rw [if_neg (Nat.lt_irrefl n), if_pos (Nat.lt_succ_self n), show one6 n x n = x from if_pos rfl, z_or]
      · rw [show one6 d x n = 0 from if_neg q, sh_zero n (by omega), or_z]
        by_cases q2 : d < n
        · rw [if_pos q2, if_pos (by omega)]
        · rw [if_neg q2, if_neg (by omega)]
  have := key 6 (Nat.le_refl 6)
  rw [if_pos hd] at this
  exact this.symm
/-- six of a row, from a place on; six written there -/
abbrev rw6 (r : Nat → Int32) (b : Nat) : Nat → Int32 := fun k => r (b + k)
def st6 (r : Nat → Int32) (b : Nat) (v : Nat → Int32) : Nat → Int32 := rf b (b + 6) (fun x => v (x - b)) r
theorem st6_in {r : Nat → Int32} {b k : Nat} {v : Nat → Int32} (h : k < 6) : st6 r b v (b + k) = v k := by
  unfold st6
  rw [rf_in ⟨by omega, by omega⟩, Nat.add_sub_cancel_left]
theorem st6_out {r : Nat → Int32} {b x : Nat} {v : Nat → Int32} (h : ¬ (b ≤ x ∧ x < b + 6)) : st6 r b v x = r x := rf_out h
theorem pkB_at {r : Nat → Int32} {d e f : Nat} (he : e < 2) (hf : f < 4) : pkB r (8 * d + 4 * e + f) = pk (rw6 r (24 * (10 * d + e) + 6 * f)) := by
  unfold pkB
  rw [show (8 * d + 4 * e + f) / 8 = d by omega, show (8 * d + 4 * e + f) % 8 / 4 = e by omega, show (8 * d + 4 * e + f) % 4 = f by omega]
theorem pkB_st {r : Nat → Int32} {d e f : Nat} (he : e < 2) (hf : f < 4) {v : Nat → Int32} (j : Nat) : pkB (st6 r (24 * (10 * d + e) + 6 * f) v) j = if j = 8 * d + 4 * e + f then pk v else pkB r j := by
  by_cases q : j = 8 * d + 4 * e + f
  · rw [if_pos q, q, pkB_at he hf]
    exact lp_congr (fun k hk => st6_in hk)
  · rw [if_neg q]
    refine lp_congr (fun k hk => st6_out ?_)
    omega
theorem pkA_at {r : Nat → Int32} {k f : Nat} : pkA r (4 * k + f) = pk (rw6 r (24 * k + 6 * f)) := by
  unfold pkA
  rw [show 6 * (4 * k + f) = 24 * k + 6 * f by omega]
theorem pkA_st {r : Nat → Int32} {k f : Nat} {v : Nat → Int32} (j : Nat) : pkA (st6 r (24 * k + 6 * f) v) j = if j = 4 * k + f then pk v else pkA r j := by
  by_cases q : j = 4 * k + f
  · rw [if_pos q, q, pkA_at]
    exact lp_congr (fun k hk => st6_in hk)
  · rw [if_neg q]
    refine lp_congr (fun k hk => st6_out ?_)
    omega
