/-! the books -/
/-- the number of entries, and of each entry's marks -/
def BK (gm : GM) (I : Mem) (b n : Nat) (mcs : Nat → Nat) : Prop := I (1, b, 0, 0) 1 = nI n ∧ n ≤ 10 ∧ ∀ e, e < 10 → I (4, b, e, 0) 1 = nI (mcs e) ∧ mcs e ≤ (gm b e).1
theorem BK.of {gm : GM} {I J : Mem} {b n : Nat} {mcs : Nat → Nat} (h : BK gm I b n mcs) (h1 : J (1, b, 0, 0) 1 = I (1, b, 0, 0) 1) (h4 : ∀ e, J (4, b, e, 0) 1 = I (4, b, e, 0) 1) : BK gm J b n mcs := ⟨h1.trans h.1, h.2.1, fun e he => ⟨(h4 e).trans (h.2.2 e he).1, (h.2.2 e he).2⟩⟩
def us (x : Int32) (k : Nat) : Int32 := (x.toUInt32 >>> ((nI k).toUInt32 &&& Int32.toUInt32 31)).toInt32
def bc1 (x : Int32) : Int32 := x - (us x 1 &&& 1431655765)
def bc2 (x : Int32) : Int32 := (bc1 x &&& 858993459) + (us (bc1 x) 2 &&& 858993459)
def bc3 (x : Int32) : Int32 := (bc2 x + us (bc2 x) 4) &&& 252645135
def bc4 (x : Int32) : Int32 := bc3 x + us (bc3 x) 8
def bc5 (x : Int32) : Int32 := bc4 x + us (bc4 x) 16
/-- Integer.bitCount -/
def bcI (x : Int32) : Int32 := bc5 x &&& nI 63
/-- memories of the books -/
def mkeM (I : Mem) (b d n : Nat) : Mem := sset (sset (sset I (1, b, 0, 0) (upd (I (1, b, 0, 0)) 1 (nI (n + 1)))) (4, b, n, 0) (upd (I (4, b, n, 0)) 0 (nI (d / 2)))) (9, b, n, d) (upd (I (9, b, n, d)) 0 1)
def nxtM (I : Mem) (b d : Nat) : Mem := sset I (2, b, 0, 0) (upd (I (2, b, 0, 0)) d (I (2, b, 0, 0) d + 1))
def tl1M (I : Mem) (b e f d : Nat) : Mem := sset (nxtM (dropM f I b e d) b d) (13, b, e, d) (upd (I (13, b, e, d)) (f * 6 + d) (I (2, b, 0, 0) d + 1))
def tllM (I : Mem) (b e f d : Nat) (v : Int32) : Mem := if v = (-1) then tl1M I b e f d else
  sset (sset (tl1M I b e f d) (10, b, e, d) (upd (tl1M I b e f d (10, b, e, d)) (f * 6 + d) (I (2, b, 0, 0) d + 1))) (11, b, e, d) (upd (tl1M I b e f d (11, b, e, d)) (f * 6 + d) v)
def shrM (I : Mem) (b e p : Nat) (F : Int32) : Nat → Mem
  | 0 => sset I (5, b, e, 0) (upd (I (5, b, e, 0)) p F)
  | n + 1 => if n / 2 = p then keepM F (shrM I b e p F n) b e n else shrM I b e p F n
def mgdM (I : Mem) (b d d2 : Nat) (mcs : Nat → Nat) : Nat → Mem
  | 0 => I
  | n + 1 => mgeM (mgdM I b d d2 mcs n) b n d d2 (mcs n) (I (1, b, 0, 0) 0)
def mgdR (I : Mem) (b d d2 : Nat) (mcs : Nat → Nat) : Nat → Int32
  | 0 => 0
  | n + 1 => mgdR I b d d2 mcs n + mgeR (mgdM I b d d2 mcs n) b n d d2
def pasM (I : Mem) (b : Nat) (mcs : Nat → Nat) (k : Int32) : Nat → Mem
  | 0 => sset I (1, b, 0, 0) (upd (I (1, b, 0, 0)) 0 (I (1, b, 0, 0) 0 + k))
  | n + 1 => fwoM (pasM I b mcs k n) b n (mcs n) (I (1, b, 0, 0) 0 + k) 6
def pasN (I : Mem) (b : Nat) (mcs : Nat → Nat) (k : Int32) : Nat → Nat
  | 0 => 0
  | n + 1 => pasN I b mcs k n + fwoN (pasM I b mcs k n) b n (mcs n) (I (1, b, 0, 0) 0 + k) 6
def bclN (I : Mem) (b d : Nat) (mcs : Nat → Nat) : Nat → Nat
  | 0 => 0
  | n + 1 => bclN I b d mcs n + if sto I b n d (mcs n) = 1 then ccl (I (10, b, n, d)) else 0
def bcmI (I : Mem) (b d d2 : Nat) (mcs : Nat → Nat) : Nat → Int32
  | 0 => 0
  | n + 1 => bcmI I b d d2 mcs n + bcI (cmpF I b n d d2 (mcs n))
def bsmN (I : Mem) (b d d2 : Nat) (mcs : Nat → Nat) : Nat → Nat
  | 0 => 0
  | n + 1 => bsmN I b d d2 mcs n + cnS I b n d d2 (mcs n)
def bcrM (I : Mem) (b : Nat) : Nat → Mem
  | 0 => sset (sset I (1, b, 0, 0) (upd (upd (I (1, b, 0, 0)) 0 0) 1 0)) (2, b, 0, 0) (fun _ => 0)
  | n + 1 => ecleM (bcrM I b n) b n 6
/-- kinds that merging and forgetting leave as they are -/
def offK (k : KN) : Prop := k.1 ≠ 9 ∧ k.1 ≠ 10 ∧ k.1 ≠ 11 ∧ k.1 ≠ 13 ∧ k.1 ≠ 15 ∧ k.1 ≠ 19
theorem off1 {b e d : Nat} : offK (1, b, e, d) := by simp [offK]
theorem off4 {b e d : Nat} : offK (4, b, e, d) := by simp [offK]
theorem exch_see {I : Mem} {b e d d2 : Nat} {k : KN} (h9 : k.1 ≠ 9) (h15 : k.1 ≠ 15) : exchM I b e d d2 k = I k := by
  unfold exchM
  split
  · rw [sset_ne _ _ (fun q => h15 (by rw [q])), sset_ne _ _ (fun q => h15 (by rw [q])), sset_ne _ _ (fun q => h9 (by rw [q])), sset_ne _ _ (fun q => h9 (by rw [q]))]
  · rfl
theorem ebr_see {I : Mem} {b e d d2 mc : Nat} {F month : Int32} {k : KN} (h : offK k) : ebrM I b e d d2 mc F month k = I k := by
  obtain ⟨h9, h10, h11, h13, h15, h19⟩ := h
  unfold ebrM
  rw [spd_ne h19, fld_see h10 h11 h13 4, knw_see h9]
theorem mge_see {I : Mem} {b e d d2 mc : Nat} {month : Int32} {k : KN} (h : offK k) : mgeM I b e d d2 mc month k = I k := by
  have ho := h
  obtain ⟨h9, h10, h11, h13, h15, h19⟩ := h
  have h1 : mg1M I b e d d2 mc month k = I k := by
    unfold mg1M
    split
    · exact forget_see h9 h10 h11 h13 h15 h19
    · split
      · exact forget_see h9 h10 h11 h13 h15 h19
      · split
        · split
          · rfl
          · exact ebr_see ho
        · exact ebr_see ho
  unfold mgeM
  split
  · rfl
  · unfold mg2M
    split
    · split
      · rw [exch_see h9 h15, h1]
      · exact h1
    · exact h1
theorem mgd_see {I : Mem} {b d d2 : Nat} {mcs : Nat → Nat} {k : KN} (h : offK k) : ∀ n, mgdM I b d d2 mcs n k = I k
  | 0 => rfl
  | n + 1 => by rw [mgdM, mge_see h, mgd_see h n]
theorem pas_see {I : Mem} {b : Nat} {mcs : Nat → Nat} {m : Int32} {k : KN} (h : offK k) : ∀ n, pasM I b mcs m n k = pasM I b mcs m 0 k
  | 0 => rfl
  | n + 1 => by
    rw [show pasM I b mcs m (n + 1) = fwoM (pasM I b mcs m n) b n (mcs n) (I (1, b, 0, 0) 0 + m) 6 from rfl, fwo_see h.1 h.2.1 h.2.2.1 h.2.2.2.1 h.2.2.2.2.1 h.2.2.2.2.2 6, pas_see h n]
theorem pas_4 {I : Mem} {b e : Nat} {mcs : Nat → Nat} {m : Int32} (n : Nat) : pasM I b mcs m n (4, b, e, 0) = I (4, b, e, 0) := by
  rw [pas_see off4, pasM, sset_ne _ _ (nek (by decide))]
theorem pas_n {I : Mem} {b : Nat} {mcs : Nat → Nat} {m : Int32} (n : Nat) : pasM I b mcs m n (1, b, 0, 0) 1 = I (1, b, 0, 0) 1 := by
  rw [pas_see off1, pasM, sset_eq]
  rfl
theorem pas_m {I : Mem} {b : Nat} {mcs : Nat → Nat} {m : Int32} (n : Nat) : pasM I b mcs m n (1, b, 0, 0) 0 = I (1, b, 0, 0) 0 + m := by
  rw [pas_see off1, pasM, sset_eq]
  rfl
theorem pasN_le {I : Mem} {b : Nat} {mcs : Nat → Nat} {m : Int32} : ∀ n, pasN I b mcs m n ≤ 6 * n
  | 0 => Nat.le_refl 0
  | n + 1 => by
    have h1 := pasN_le (I := I) (b := b) (mcs := mcs) (m := m) n
    have h2 := fwoN_le (pasM I b mcs m n) b n (mcs n) (I (1, b, 0, 0) 0 + m) 6
    rw [pasN]
    omega
theorem bclN_le {I : Mem} {b d : Nat} {mcs : Nat → Nat} : ∀ n, bclN I b d mcs n ≤ 4 * n
  | 0 => Nat.le_refl 0
  | n + 1 => by
    have h1 := bclN_le (I := I) (b := b) (d := d) (mcs := mcs) n
    have h2 := ccl_le (I (10, b, n, d))
    rw [bclN]
    split <;> omega
