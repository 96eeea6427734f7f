/-! forgetting, step by step -/
def fgM (I : Mem) (b e d n : Nat) : Mem := sset (sset (unkM I b e d n) (9, b, e, d) (upd (I (9, b, e, d)) 1 1)) (15, b, e, d) (noteR I b e d n)
theorem fg_see {I : Mem} {b e d n : Nat} {k : KN} (h9 : k.1 ≠ 9) (h15 : k.1 ≠ 15) (h19 : k.1 ≠ 19) : fgM I b e d n k = I k := by
  unfold fgM
  rw [sset_ne _ _ (fun q => h15 (by rw [q])), sset_ne _ _ (fun q => h9 (by rw [q])), unk_ne h19]
theorem fg_19 {I : Mem} {b e d n j : Nat} (h : n ≤ j) : fgM I b e d n (19, b, e, j) = I (19, b, e, j) := by
  unfold fgM
  rw [sset_ne _ _ (nek (by decide)), sset_ne _ _ (nek (by decide)), unk_at h]
theorem fg_15 {I : Mem} {b e d n : Nat} : fgM I b e d n (15, b, e, d) = noteR I b e d n := by unfold fgM; rw [sset_eq]
theorem fg_0 (I : Mem) (b e d : Nat) : sset (sset I (9, b, e, d) (upd (I (9, b, e, d)) 1 (nI 1))) (15, b, e, d) (gM ((sset I (9, b, e, d) (upd (I (9, b, e, d)) 1 (nI 1))) (15, b, e, d)) ((sset I (9, b, e, d) (upd (I (9, b, e, d)) 1 (nI 1))) (13, b, e, d))) = fgM I b e d 0 := by
  unfold fgM
  rw [unk_0, sset_ne _ _ (nek (by decide) : ((15, b, e, d) : KN) ≠ (9, b, e, d)), sset_ne _ _ (nek (by decide) : ((13, b, e, d) : KN) ≠ (9, b, e, d))]
  rfl
theorem fg_s1 {I : Mem} {b e d n : Nat} (hk : kno (I (19, b, e, n) d) = true) : sset (sset (fgM I b e d n) (15, b, e, d) (gM ((fgM I b e d n) (15, b, e, d)) ((fgM I b e d n) (18, b, e, n)))) (19, b, e, n) (upd ((sset (fgM I b e d n) (15, b, e, d) (gM ((fgM I b e d n) (15, b, e, d)) ((fgM I b e d n) (18, b, e, n)))) (19, b, e, n)) d (-1)) = fgM I b e d (n + 1) := by
  rw [fg_15, fg_see (k := (18, b, e, n)) (by exact Nat.ne_of_beq_eq_false rfl) (by exact Nat.ne_of_beq_eq_false rfl) (by exact Nat.ne_of_beq_eq_false rfl), sset_ne _ _ (nek (by decide) : ((19, b, e, n) : KN) ≠ (15, b, e, d)), fg_19 (Nat.le_refl n)]
  unfold fgM
  rw [sset_sset, sset_comm _ (nek (by decide) : ((15, b, e, d) : KN) ≠ (19, b, e, n)), sset_comm _ (nek (by decide) : ((9, b, e, d) : KN) ≠ (19, b, e, n)), unk_s]
  congr 1
  rw [noteR, if_pos hk]
theorem fg_s2 {I : Mem} {b e d n : Nat} (hk : kno (I (19, b, e, n) d) = false) : fgM I b e d n = fgM I b e d (n + 1) := by
  unfold fgM
  rw [unk_s2 hk, noteR, if_neg (by rw [hk]; decide)]
theorem fg_end {I : Mem} {b e d n : Nat} : keepM (nI 0) (sset (fgM I b e d n) (9, b, e, d) (upd ((fgM I b e d n) (9, b, e, d)) 0 (nI 0))) b e d = forgetM I b e d n := by
  unfold keepM
  rw [show nI 0 = (0 : Int32) from rfl]
  simp only [keepR_0]
  unfold fgM forgetM
  rw [sset_ne _ _ (nek (by decide) : ((9, b, e, d) : KN) ≠ (15, b, e, d)), sset_eq, sset_comm _ (nek (by decide) : ((15, b, e, d) : KN) ≠ (9, b, e, d)), sset_sset]
theorem forget_see {I : Mem} {b e d n : Nat} {k : KN} (h9 : k.1 ≠ 9) (h10 : k.1 ≠ 10) (h11 : k.1 ≠ 11) (h13 : k.1 ≠ 13) (h15 : k.1 ≠ 15) (h19 : k.1 ≠ 19) : forgetM I b e d n k = I k := by
  unfold forgetM
  rw [sset_ne _ _ (fun q => h13 (by rw [q])), sset_ne _ _ (fun q => h11 (by rw [q])), sset_ne _ _ (fun q => h10 (by rw [q])), sset_ne _ _ (fun q => h15 (by rw [q])), sset_ne _ _ (fun q => h9 (by rw [q])), unk_ne h19]
theorem fwo_see {I : Mem} {b e mc : Nat} {month : Int32} {k : KN} (h9 : k.1 ≠ 9) (h10 : k.1 ≠ 10) (h11 : k.1 ≠ 11) (h13 : k.1 ≠ 13) (h15 : k.1 ≠ 15) (h19 : k.1 ≠ 19) : ∀ n, fwoM I b e mc month n k = I k
  | 0 => rfl
  | n + 1 => by
    rw [fwoM]
    split
    · rw [forget_see h9 h10 h11 h13 h15 h19, fwo_see h9 h10 h11 h13 h15 h19 n]
    · exact fwo_see h9 h10 h11 h13 h15 h19 n
theorem braid_ne {I : Mem} {lo hi b e d d2 : Nat} {k : KN} (h10 : k.1 ≠ 10) (h11 : k.1 ≠ 11) (h13 : k.1 ≠ 13) : braidM lo hi I b e d d2 k = I k := by
  unfold braidM
  rw [sset_ne _ _ (fun q => h13 (by rw [q])), sset_ne _ _ (fun q => h13 (by rw [q])), sset_ne _ _ (fun q => h11 (by rw [q])), sset_ne _ _ (fun q => h10 (by rw [q])), sset_ne _ _ (fun q => h11 (by rw [q])), sset_ne _ _ (fun q => h10 (by rw [q]))]
theorem fld_see {I : Mem} {b e d d2 : Nat} {F : Int32} {k : KN} (h10 : k.1 ≠ 10) (h11 : k.1 ≠ 11) (h13 : k.1 ≠ 13) : ∀ n, fldM I b e d d2 F n k = I k
  | 0 => rfl
  | n + 1 => by
    rw [fldM]
    split
    · rw [braid_ne h10 h11 h13, fld_see h10 h11 h13 n]
    · exact fld_see h10 h11 h13 n
theorem knw_see {I : Mem} {b e d d2 : Nat} {k : KN} (h9 : k.1 ≠ 9) : knwM I b e d d2 k = I k := by
  unfold knwM
  rw [sset_ne _ _ (fun q => h9 (by rw [q])), sset_ne _ _ (fun q => h9 (by rw [q]))]
theorem clear_see {I : Mem} {b e d : Nat} {k : KN} (h9 : k.1 ≠ 9) (h10 : k.1 ≠ 10) (h11 : k.1 ≠ 11) (h13 : k.1 ≠ 13) (h15 : k.1 ≠ 15) : clearM I b e d k = I k := by
  unfold clearM
  rw [sset_ne _ _ (fun q => h15 (by rw [q])), sset_ne _ _ (fun q => h13 (by rw [q])), sset_ne _ _ (fun q => h11 (by rw [q])), sset_ne _ _ (fun q => h10 (by rw [q])), sset_ne _ _ (fun q => h9 (by rw [q]))]
