/-! the journal; what a device knows of an entry -/
def jwM (I : Mem) (z : Nat) (k a b c d : Int32) : Mem := sset (sset (sset (sset (sset (sset I (21, 0, 0, 0) (upd (I (21, 0, 0, 0)) z k)) (22, 0, 0, 0) (upd (I (22, 0, 0, 0)) z a)) (23, 0, 0, 0) (upd (I (23, 0, 0, 0)) z b)) (24, 0, 0, 0) (upd (I (24, 0, 0, 0)) z c)) (25, 0, 0, 0) (upd (I (25, 0, 0, 0)) z d)) (20, 0, 0, 0) (upd (I (20, 0, 0, 0)) 0 (nI (z + 1)))
theorem jw_see {I : Mem} {z : Nat} {a b c d e : Int32} {k : KN} (h0 : k.1 ≠ 20) (h1 : k.1 ≠ 21) (h2 : k.1 ≠ 22) (h3 : k.1 ≠ 23) (h4 : k.1 ≠ 24) (h5 : k.1 ≠ 25) : jwM I z a b c d e k = I k := by
  unfold jwM
  rw [sset_ne _ _ (fun q => h0 (by rw [q])), sset_ne _ _ (fun q => h5 (by rw [q])), sset_ne _ _ (fun q => h4 (by rw [q])), sset_ne _ _ (fun q => h3 (by rw [q])), sset_ne _ _ (fun q => h2 (by rw [q])), sset_ne _ _ (fun q => h1 (by rw [q]))]
theorem jw_BK {gm : GM} {I : Mem} {bk n z : Nat} {mcs : Nat → Nat} {a b c d e : Int32} (h : BK gm I bk n mcs) : BK gm (jwM I z a b c d e) bk n mcs := h.of (congrFun (jw_see (by exact Nat.ne_of_beq_eq_false rfl) (by exact Nat.ne_of_beq_eq_false rfl) (by exact Nat.ne_of_beq_eq_false rfl) (by exact Nat.ne_of_beq_eq_false rfl) (by exact Nat.ne_of_beq_eq_false rfl) (by exact Nat.ne_of_beq_eq_false rfl)) _) (fun e => congrFun (jw_see (by exact Nat.ne_of_beq_eq_false rfl) (by exact Nat.ne_of_beq_eq_false rfl) (by exact Nat.ne_of_beq_eq_false rfl) (by exact Nat.ne_of_beq_eq_false rfl) (by exact Nat.ne_of_beq_eq_false rfl) (by exact Nat.ne_of_beq_eq_false rfl)) _)
def ckn (I : Mem) (b n : Nat) (x y : Int32) : Bool := isDev x && (isEnt n y && nz (I (9, b, y.toNatClampNeg, x.toNatClampNeg) 0))
theorem ckn_nI {I : Mem} {b n d e : Nat} (hn10 : n ≤ 10) (hd : d < 6) (he : e < n) : ckn I b n (nI d) (nI e) = nz (I (9, b, e, d) 0) := by
  unfold ckn
  rw [isDev_nI hd, isEnt_nI hn10 he, nI_clamp (by omega), nI_clamp (by omega), Bool.true_and, Bool.true_and]
theorem isEnt_out {n : Nat} {x : Int32} (h : isEnt n x = false) : x < 0 ∨ nI n ≤ x := by
  unfold isEnt at h
  by_cases h0 : x < 0
  · exact Or.inl h0
  · by_cases h1 : nI n ≤ x
    · exact Or.inr h1
    · simp [h0, h1] at h
theorem nz_t {x : Int32} (h : nz x = true) : x ≠ 0 := by
  intro q
  rw [q] at h
  cases h
theorem nz_f {x : Int32} (h : nz x = false) : x = 0 := by
  unfold nz at h
  by_cases q : x = 0
  · exact q
  · rw [if_neg q] at h; cases h
theorem cond_ckn {I : Mem} {b n : Nat} {x y : Int32} (hn10 : n ≤ 10) (h : ckn I b n x y = false) : isDev x = false ∨ (∃ d, d < 6 ∧ x = nI d ∧ ((y < 0 ∨ nI n ≤ y) ∨ ∃ e, e < n ∧ y = nI e ∧ I (9, b, e, d) 0 = 0)) := by
  cases hx : isDev x with
  | false => exact Or.inl rfl
  | true =>
    obtain ⟨d, hd, rfl⟩ := isDev_of hx
    refine Or.inr ⟨d, hd, rfl, ?_⟩
    cases hy : isEnt n y with
    | false => exact Or.inl (isEnt_out hy)
    | true =>
      obtain ⟨e, he, rfl⟩ := isEnt_of hn10 hy
      rw [ckn_nI hn10 hd he] at h
      exact Or.inr ⟨e, he, rfl, nz_f h⟩
