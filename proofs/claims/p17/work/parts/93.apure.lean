/-! a step of the law: its acts -/
theorem gc_lae {W : Mem} {g : Nat → Int32} (h0 : W (30, 0, 0, 0) 1 = g 0) (h1 : W (30, 0, 0, 0) 0 = g 1) (h2 : W (30, 0, 0, 0) 2 = g 2) (h3 : ∀ d, d < 6 → W (31, 0, 0, 0) d = g (3 + d)) : ∀ x, x < 9 → LL W (45, 0, 0, 0) x = g x := fun x hx => by
  rw [LL_45]
  unfold gcode
  by_cases q0 : x = 0
  · rw [if_pos q0, q0]; exact h0
  · by_cases q1 : x = 1
    · rw [if_neg q0, if_pos q1, q1]; exact h1
    · by_cases q2 : x = 2
      · rw [if_neg q0, if_neg q1, if_pos q2, q2]; exact h2
      · rw [if_neg q0, if_neg q1, if_neg q2, h3 (x - 3) (by omega), show 3 + (x - 3) = x by omega]
theorem kc_lae {W Z : Mem} (h34 : W (34, 0, 0, 0) = Z (34, 0, 0, 0)) (h38 : W (38, 0, 0, 0) = Z (38, 0, 0, 0)) : LL W (43, 0, 0, 0) = LL Z (43, 0, 0, 0) := by
  rw [LL_43, LL_43]
  unfold kcode
  rw [h34, h38]
theorem wc_lae {W Z : Mem} (h32 : W (32, 0, 0, 0) = Z (32, 0, 0, 0)) (h33 : W (33, 0, 0, 0) = Z (33, 0, 0, 0)) : LL W (44, 0, 0, 0) = LL Z (44, 0, 0, 0) := by
  rw [LL_44, LL_44]
  unfold wcode
  rw [h32, h33]
theorem ent_LAe {Z : Mem} {d n : Nat} (hd : d < 6) (hn : n < 2) (h38 : Z (38, 0, 0, 0) (10 * d + n) = 0) : LAe (sset (sset (sset (LL Z) (44, 0, 0, 0) (upd ((LL Z) (44, 0, 0, 0)) (4 * n) (nI (d / 2)))) (43, 0, 0, 0) (upd ((sset (LL Z) (44, 0, 0, 0) (upd ((LL Z) (44, 0, 0, 0)) (4 * n) (nI (d / 2)))) (43, 0, 0, 0)) (2 * d + n) (nI 1))) (45, 0, 0, 0) (upd ((sset (sset (LL Z) (44, 0, 0, 0) (upd ((LL Z) (44, 0, 0, 0)) (4 * n) (nI (d / 2)))) (43, 0, 0, 0) (upd ((sset (LL Z) (44, 0, 0, 0) (upd ((LL Z) (44, 0, 0, 0)) (4 * n) (nI (d / 2)))) (43, 0, 0, 0)) (2 * d + n) (nI 1))) (45, 0, 0, 0)) 0 (nI (n + 1)))) (LL (mEntM Z d n)) := by
  have hs : ∀ kk : KN, kk.1 ≠ 44 → kk.1 ≠ 43 → kk.1 ≠ 45 → (sset (sset (sset (LL Z) (44, 0, 0, 0) (upd ((LL Z) (44, 0, 0, 0)) (4 * n) (nI (d / 2)))) (43, 0, 0, 0) (upd ((sset (LL Z) (44, 0, 0, 0) (upd ((LL Z) (44, 0, 0, 0)) (4 * n) (nI (d / 2)))) (43, 0, 0, 0)) (2 * d + n) (nI 1))) (45, 0, 0, 0) (upd ((sset (sset (LL Z) (44, 0, 0, 0) (upd ((LL Z) (44, 0, 0, 0)) (4 * n) (nI (d / 2)))) (43, 0, 0, 0) (upd ((sset (LL Z) (44, 0, 0, 0) (upd ((LL Z) (44, 0, 0, 0)) (4 * n) (nI (d / 2)))) (43, 0, 0, 0)) (2 * d + n) (nI 1))) (45, 0, 0, 0)) 0 (nI (n + 1)))) kk = (LL Z) kk := fun kk h44 h43 h45 => by
    rw [sset_ne _ _ (fun q => h45 (by rw [q])), sset_ne _ _ (fun q => h43 (by rw [q])), sset_ne _ _ (fun q => h44 (by rw [q]))]
  have ho : ∀ kk : KN, kk.1 ≠ 30 → kk.1 ≠ 32 → kk.1 ≠ 34 → mEntM Z d n kk = Z kk := fun kk h30 h32 h34 => by
    unfold mEntM
    rw [sset_ne _ _ (fun q => h30 (by rw [q])), sset_ne _ _ (fun q => h34 (by rw [q])), sset_ne _ _ (fun q => h32 (by rw [q])), th_see h30]
  have r30 : mEntM Z d n (30, 0, 0, 0) = upd (thM Z 0 (30, 0, 0, 0)) 1 (nI (n + 1)) := sset_eq _ _ _
  have r32 : mEntM Z d n (32, 0, 0, 0) = upd (Z (32, 0, 0, 0)) n (nI (d / 2)) := by
    unfold mEntM
    rw [sset_ne _ _ (nek (by decide)), sset_ne _ _ (nek (by decide)), sset_eq]
  have r34 : mEntM Z d n (34, 0, 0, 0) = upd (Z (34, 0, 0, 0)) (10 * d + n) 1 := by
    unfold mEntM
    rw [sset_ne _ _ (nek (by decide)), sset_eq]
  have x43 : (sset (sset (sset (LL Z) (44, 0, 0, 0) (upd ((LL Z) (44, 0, 0, 0)) (4 * n) (nI (d / 2)))) (43, 0, 0, 0) (upd ((sset (LL Z) (44, 0, 0, 0) (upd ((LL Z) (44, 0, 0, 0)) (4 * n) (nI (d / 2)))) (43, 0, 0, 0)) (2 * d + n) (nI 1))) (45, 0, 0, 0) (upd ((sset (sset (LL Z) (44, 0, 0, 0) (upd ((LL Z) (44, 0, 0, 0)) (4 * n) (nI (d / 2)))) (43, 0, 0, 0) (upd ((sset (LL Z) (44, 0, 0, 0) (upd ((LL Z) (44, 0, 0, 0)) (4 * n) (nI (d / 2)))) (43, 0, 0, 0)) (2 * d + n) (nI 1))) (45, 0, 0, 0)) 0 (nI (n + 1)))) (43, 0, 0, 0) = upd (LL Z (43, 0, 0, 0)) (2 * d + n) (nI 1) := by rw [sset_ne _ _ (nek (by decide)), sset_eq, sset_ne _ _ (nek (by decide))]
  have x44 : (sset (sset (sset (LL Z) (44, 0, 0, 0) (upd ((LL Z) (44, 0, 0, 0)) (4 * n) (nI (d / 2)))) (43, 0, 0, 0) (upd ((sset (LL Z) (44, 0, 0, 0) (upd ((LL Z) (44, 0, 0, 0)) (4 * n) (nI (d / 2)))) (43, 0, 0, 0)) (2 * d + n) (nI 1))) (45, 0, 0, 0) (upd ((sset (sset (LL Z) (44, 0, 0, 0) (upd ((LL Z) (44, 0, 0, 0)) (4 * n) (nI (d / 2)))) (43, 0, 0, 0) (upd ((sset (LL Z) (44, 0, 0, 0) (upd ((LL Z) (44, 0, 0, 0)) (4 * n) (nI (d / 2)))) (43, 0, 0, 0)) (2 * d + n) (nI 1))) (45, 0, 0, 0)) 0 (nI (n + 1)))) (44, 0, 0, 0) = upd (LL Z (44, 0, 0, 0)) (4 * n) (nI (d / 2)) := by rw [sset_ne _ _ (nek (by decide)), sset_ne _ _ (nek (by decide)), sset_eq]
  have x45 : (sset (sset (sset (LL Z) (44, 0, 0, 0) (upd ((LL Z) (44, 0, 0, 0)) (4 * n) (nI (d / 2)))) (43, 0, 0, 0) (upd ((sset (LL Z) (44, 0, 0, 0) (upd ((LL Z) (44, 0, 0, 0)) (4 * n) (nI (d / 2)))) (43, 0, 0, 0)) (2 * d + n) (nI 1))) (45, 0, 0, 0) (upd ((sset (sset (LL Z) (44, 0, 0, 0) (upd ((LL Z) (44, 0, 0, 0)) (4 * n) (nI (d / 2)))) (43, 0, 0, 0) (upd ((sset (LL Z) (44, 0, 0, 0) (upd ((LL Z) (44, 0, 0, 0)) (4 * n) (nI (d / 2)))) (43, 0, 0, 0)) (2 * d + n) (nI 1))) (45, 0, 0, 0)) 0 (nI (n + 1)))) (45, 0, 0, 0) = upd (LL Z (45, 0, 0, 0)) 0 (nI (n + 1)) := by rw [sset_eq, sset_ne _ _ (nek (by decide)), sset_ne _ _ (nek (by decide))]
  refine ⟨fun kk hk => ?_, fun d2 e2 c _ _ _ => ?_, fun d2 e2 c _ _ _ => ?_, fun d2 e2 c _ _ _ => ?_, fun x _ => ?_, fun x _ => ?_, fun x _ => ?_, fun x hx => ?_, fun x hx => ?_, ?_⟩
  · rw [hs kk (by omega) (by omega) (by omega), LL_see (by omega), LL_see (by omega), ho kk (by omega) (by omega) (by omega)]
  · rw [hs _ (by decide) (by decide) (by decide), LL_see (by decide), LL_see (by decide), ho _ (by decide) (by decide) (by decide)]
  · rw [hs _ (by decide) (by decide) (by decide), LL_see (by decide), LL_see (by decide), ho _ (by decide) (by decide) (by decide)]
  · rw [hs _ (by decide) (by decide) (by decide), LL_see (by decide), LL_see (by decide), ho _ (by decide) (by decide) (by decide)]
  · rw [hs _ (by decide) (by decide) (by decide), LL_see (by decide), LL_see (by decide), ho _ (by decide) (by decide) (by decide)]
  · rw [hs _ (by decide) (by decide) (by decide), LL_see (by decide), LL_see (by decide), ho _ (by decide) (by decide) (by decide)]
  · rw [hs _ (by decide) (by decide) (by decide), LL_see (by decide), LL_see (by decide), ho _ (by decide) (by decide) (by decide)]
  · rw [x43, LL_43, LL_43]
    show mEntM Z d n (34, 0, 0, 0) (10 * (x / 2) + x % 2) + nI 2 * mEntM Z d n (38, 0, 0, 0) (10 * (x / 2) + x % 2) = _
    rw [r34, ho (38, 0, 0, 0) (by decide) (by decide) (by decide)]
    by_cases q : x = 2 * d + n
    · rw [q, ud_eq, show 10 * ((2 * d + n) / 2) + (2 * d + n) % 2 = 10 * d + n by omega, ud_eq, h38]
      rfl
    · rw [ud_ne _ _ q, ud_ne _ _ (by omega)]
      rfl
  · rw [x44, LL_44, LL_44]
    show (if x % 4 = 0 then mEntM Z d n (32, 0, 0, 0) (x / 4) else mEntM Z d n (33, 0, 0, 0) (3 * (x / 4) + (x % 4 - 1))) = _
    rw [r32, ho (33, 0, 0, 0) (by decide) (by decide) (by decide)]
    by_cases q : x = 4 * n
    · rw [if_pos (by omega), q, ud_eq, show 4 * n / 4 = n by omega, ud_eq]
    · rw [ud_ne _ _ q]
      show _ = (if x % 4 = 0 then Z (32, 0, 0, 0) (x / 4) else Z (33, 0, 0, 0) (3 * (x / 4) + (x % 4 - 1)))
      by_cases w : x % 4 = 0
      · rw [if_pos w, if_pos w, ud_ne _ _ (by omega)]
      · rw [if_neg w, if_neg w]
  · rw [x45]
    refine gc_lae ?_ ?_ ?_ (fun d2 _ => ?_)
    · rw [r30, ud_eq, ud_eq]
    · rw [r30, ud_ne _ _ (by decide), ud_ne _ _ (by decide), th_30 (by decide), gc_1]
    · rw [r30, ud_ne _ _ (by decide), ud_ne _ _ (by decide), th_30 (by decide), gc_2]
    · rw [ud_ne _ _ (by omega), gc_3, ho (31, 0, 0, 0) (by decide) (by decide) (by decide)]
theorem n_gez {a : Nat} (h : a < 2 ^ 31) : (0 : Int32) ≤ nI a := by rw [Int32.le_iff_toInt_le, i_nI h, i_zero]; omega
theorem sm_one {d a k : Nat} (h : a < 64) : sm6 (one6 d (nI a) k) := by
  unfold one6
  split
  · exact sm6_of h
  · exact sm6_0
theorem imax_own {x : Int32} {a : Nat} (h : x.toInt ≤ a) (ha : a < 1000) : imax x (nI (a + 1)) = nI (a + 1) := by
  unfold imax
  rw [if_pos]
  rw [Int32.lt_iff_toInt_lt, i_nI (by omega)]
  omega
theorem imax_0 {x : Int32} (h : sm6 x) : imax x 0 = x := by
  unfold imax
  rw [if_neg]
  rw [Int32.lt_iff_toInt_lt, i_zero]
  have := h.1
  omega
theorem tel_LAe {Z : Mem} {d e f a : Nat} {w : Int32} {VV : Nat → Int32} (hd : d < 6) (he : e < 2) (hf : f < 4) (ha : Z (31, 0, 0, 0) d = nI a) (ha2 : a < 63) (hB : BR Z) (hown : (Z (37, 0, 0, 0) (24 * (10 * d + e) + 6 * f + d)).toInt ≤ a) (hV : ∀ k, k < 6 → VV k = mtlM Z d e f w (35, 0, 0, 0) (24 * (10 * d + e) + 6 * f + k)) : LAe (sset (sset (sset (LL Z) (45, 0, 0, 0) (upd ((LL Z) (45, 0, 0, 0)) (3 + d) (nI (a + 1)))) (35, 0, 0, 0) (st6 ((sset (LL Z) (45, 0, 0, 0) (upd ((LL Z) (45, 0, 0, 0)) (3 + d) (nI (a + 1)))) (35, 0, 0, 0)) (24 * (10 * d + e) + 6 * f) VV)) (37, 0, 0, 0) (st6 ((sset (sset (LL Z) (45, 0, 0, 0) (upd ((LL Z) (45, 0, 0, 0)) (3 + d) (nI (a + 1)))) (35, 0, 0, 0) (st6 ((sset (LL Z) (45, 0, 0, 0) (upd ((LL Z) (45, 0, 0, 0)) (3 + d) (nI (a + 1)))) (35, 0, 0, 0)) (24 * (10 * d + e) + 6 * f) VV)) (37, 0, 0, 0)) (24 * (10 * d + e) + 6 * f) (gM (rw6 (Z (37, 0, 0, 0)) (24 * (10 * d + e) + 6 * f)) (one6 d (nI (a + 1)))))) (LL (mtlM Z d e f w)) := by
  have hs : ∀ kk : KN, kk.1 ≠ 45 → kk.1 ≠ 35 → kk.1 ≠ 37 → (sset (sset (sset (LL Z) (45, 0, 0, 0) (upd ((LL Z) (45, 0, 0, 0)) (3 + d) (nI (a + 1)))) (35, 0, 0, 0) (st6 ((sset (LL Z) (45, 0, 0, 0) (upd ((LL Z) (45, 0, 0, 0)) (3 + d) (nI (a + 1)))) (35, 0, 0, 0)) (24 * (10 * d + e) + 6 * f) VV)) (37, 0, 0, 0) (st6 ((sset (sset (LL Z) (45, 0, 0, 0) (upd ((LL Z) (45, 0, 0, 0)) (3 + d) (nI (a + 1)))) (35, 0, 0, 0) (st6 ((sset (LL Z) (45, 0, 0, 0) (upd ((LL Z) (45, 0, 0, 0)) (3 + d) (nI (a + 1)))) (35, 0, 0, 0)) (24 * (10 * d + e) + 6 * f) VV)) (37, 0, 0, 0)) (24 * (10 * d + e) + 6 * f) (gM (rw6 (Z (37, 0, 0, 0)) (24 * (10 * d + e) + 6 * f)) (one6 d (nI (a + 1)))))) kk = (LL Z) kk := fun kk h45 h35 h37 => by
    rw [sset_ne _ _ (fun q => h37 (by rw [q])), sset_ne _ _ (fun q => h35 (by rw [q])), sset_ne _ _ (fun q => h45 (by rw [q]))]
  have ho : ∀ kk : KN, kk.1 ≠ 30 → kk.1 ≠ 31 → kk.1 ≠ 35 → kk.1 ≠ 36 → kk.1 ≠ 37 → mtlM Z d e f w kk = Z kk := fun kk a b c d e => mtl_see a b c d e
  have x45 : (sset (sset (sset (LL Z) (45, 0, 0, 0) (upd ((LL Z) (45, 0, 0, 0)) (3 + d) (nI (a + 1)))) (35, 0, 0, 0) (st6 ((sset (LL Z) (45, 0, 0, 0) (upd ((LL Z) (45, 0, 0, 0)) (3 + d) (nI (a + 1)))) (35, 0, 0, 0)) (24 * (10 * d + e) + 6 * f) VV)) (37, 0, 0, 0) (st6 ((sset (sset (LL Z) (45, 0, 0, 0) (upd ((LL Z) (45, 0, 0, 0)) (3 + d) (nI (a + 1)))) (35, 0, 0, 0) (st6 ((sset (LL Z) (45, 0, 0, 0) (upd ((LL Z) (45, 0, 0, 0)) (3 + d) (nI (a + 1)))) (35, 0, 0, 0)) (24 * (10 * d + e) + 6 * f) VV)) (37, 0, 0, 0)) (24 * (10 * d + e) + 6 * f) (gM (rw6 (Z (37, 0, 0, 0)) (24 * (10 * d + e) + 6 * f)) (one6 d (nI (a + 1)))))) (45, 0, 0, 0) = upd (LL Z (45, 0, 0, 0)) (3 + d) (nI (a + 1)) := by rw [sset_ne _ _ (nek (by decide)), sset_ne _ _ (nek (by decide)), sset_eq]
  have x35 : (sset (sset (sset (LL Z) (45, 0, 0, 0) (upd ((LL Z) (45, 0, 0, 0)) (3 + d) (nI (a + 1)))) (35, 0, 0, 0) (st6 ((sset (LL Z) (45, 0, 0, 0) (upd ((LL Z) (45, 0, 0, 0)) (3 + d) (nI (a + 1)))) (35, 0, 0, 0)) (24 * (10 * d + e) + 6 * f) VV)) (37, 0, 0, 0) (st6 ((sset (sset (LL Z) (45, 0, 0, 0) (upd ((LL Z) (45, 0, 0, 0)) (3 + d) (nI (a + 1)))) (35, 0, 0, 0) (st6 ((sset (LL Z) (45, 0, 0, 0) (upd ((LL Z) (45, 0, 0, 0)) (3 + d) (nI (a + 1)))) (35, 0, 0, 0)) (24 * (10 * d + e) + 6 * f) VV)) (37, 0, 0, 0)) (24 * (10 * d + e) + 6 * f) (gM (rw6 (Z (37, 0, 0, 0)) (24 * (10 * d + e) + 6 * f)) (one6 d (nI (a + 1)))))) (35, 0, 0, 0) = st6 (Z (35, 0, 0, 0)) (24 * (10 * d + e) + 6 * f) VV := by rw [sset_ne _ _ (nek (by decide)), sset_eq, sset_ne _ _ (nek (by decide)), LL_see (by decide)]
  have x37 : (sset (sset (sset (LL Z) (45, 0, 0, 0) (upd ((LL Z) (45, 0, 0, 0)) (3 + d) (nI (a + 1)))) (35, 0, 0, 0) (st6 ((sset (LL Z) (45, 0, 0, 0) (upd ((LL Z) (45, 0, 0, 0)) (3 + d) (nI (a + 1)))) (35, 0, 0, 0)) (24 * (10 * d + e) + 6 * f) VV)) (37, 0, 0, 0) (st6 ((sset (sset (LL Z) (45, 0, 0, 0) (upd ((LL Z) (45, 0, 0, 0)) (3 + d) (nI (a + 1)))) (35, 0, 0, 0) (st6 ((sset (LL Z) (45, 0, 0, 0) (upd ((LL Z) (45, 0, 0, 0)) (3 + d) (nI (a + 1)))) (35, 0, 0, 0)) (24 * (10 * d + e) + 6 * f) VV)) (37, 0, 0, 0)) (24 * (10 * d + e) + 6 * f) (gM (rw6 (Z (37, 0, 0, 0)) (24 * (10 * d + e) + 6 * f)) (one6 d (nI (a + 1)))))) (37, 0, 0, 0) = st6 (Z (37, 0, 0, 0)) (24 * (10 * d + e) + 6 * f) (gM (rw6 (Z (37, 0, 0, 0)) (24 * (10 * d + e) + 6 * f)) (one6 d (nI (a + 1)))) := by rw [sset_eq, sset_ne _ _ (nek (by decide)), sset_ne _ _ (nek (by decide)), LL_see (by decide)]
  refine ⟨fun kk hk => ?_, fun d2 e2 c _ _ _ => ?_, fun d2 e2 c _ _ _ => ?_, fun d2 e2 c _ _ _ => ?_, fun x _ => ?_, fun x _ => ?_, fun x _ => ?_, fun x hx => ?_, fun x hx => ?_, ?_⟩
  · rw [hs kk (by omega) (by omega) (by omega), LL_see (by omega), LL_see (by omega), ho kk (by omega) (by omega) (by omega) (by omega) (by omega)]
  · rw [x35, LL_see (by decide)]
    by_cases q : 24 * (10 * d + e) + 6 * f ≤ cl d2 e2 c ∧ cl d2 e2 c < 24 * (10 * d + e) + 6 * f + 6
    · obtain ⟨k, hk, ek⟩ : ∃ k, k < 6 ∧ cl d2 e2 c = 24 * (10 * d + e) + 6 * f + k := ⟨cl d2 e2 c - (24 * (10 * d + e) + 6 * f), by omega, by omega⟩
      rw [ek, st6_in hk, hV k hk]
    · rw [st6_out q, mtl_35]
      split
      · exact rf_out q
      · rw [ud_ne _ _ (by omega)]
        exact rf_out q
  · rw [x37, LL_see (by decide), mtl_37, ha, nI_add]
    by_cases q : 24 * (10 * d + e) + 6 * f ≤ cl d2 e2 c ∧ cl d2 e2 c < 24 * (10 * d + e) + 6 * f + 6
    · obtain ⟨k, hk, ek⟩ : ∃ k, k < 6 ∧ cl d2 e2 c = 24 * (10 * d + e) + 6 * f + k := ⟨cl d2 e2 c - (24 * (10 * d + e) + 6 * f), by omega, by omega⟩
      rw [ek, st6_in hk]
      show _ = imax (Z (37, 0, 0, 0) (24 * (10 * d + e) + 6 * f + k)) (if k = d then nI (a + 1) else 0)
      by_cases w : k = d
      · rw [if_pos w, w, ud_eq, imax_own hown (by omega)]
      · rw [if_neg w, ud_ne _ _ (by omega), imax_0 (hB.2.1 _)]
    · rw [st6_out q, ud_ne _ _ (by omega)]
  · rw [hs _ (by decide) (by decide) (by decide), LL_see (by decide), LL_see (by decide), ho _ (by decide) (by decide) (by decide) (by decide) (by decide)]
  · rw [hs _ (by decide) (by decide) (by decide), LL_see (by decide), LL_see (by decide), ho _ (by decide) (by decide) (by decide) (by decide) (by decide)]
  · rw [hs _ (by decide) (by decide) (by decide), LL_see (by decide), LL_see (by decide), ho _ (by decide) (by decide) (by decide) (by decide) (by decide)]
  · rw [hs _ (by decide) (by decide) (by decide), LL_see (by decide), LL_see (by decide), ho _ (by decide) (by decide) (by decide) (by decide) (by decide)]
  · rw [hs _ (by decide) (by decide) (by decide), kc_lae (ho (34, 0, 0, 0) (by decide) (by decide) (by decide) (by decide) (by decide)) (ho (38, 0, 0, 0) (by decide) (by decide) (by decide) (by decide) (by decide))]
  · rw [hs _ (by decide) (by decide) (by decide), wc_lae (ho (32, 0, 0, 0) (by decide) (by decide) (by decide) (by decide) (by decide)) (ho (33, 0, 0, 0) (by decide) (by decide) (by decide) (by decide) (by decide))]
  · rw [x45]
    refine gc_lae ?_ ?_ ?_ (fun d2 _ => ?_)
    · rw [mtl_30, th_30 (by decide), ud_ne _ _ (by omega), gc_0]
    · rw [mtl_30, th_30 (by decide), ud_ne _ _ (by omega), gc_1]
    · rw [mtl_30, th_30 (by decide), ud_ne _ _ (by omega), gc_2]
    · rw [mtl_31, ha, nI_add]
      by_cases q : d2 = d
      · rw [q, ud_eq, ud_eq]
      · rw [ud_ne _ _ q, ud_ne _ _ (by omega), gc_3]
/-- the mark's row, field by field -/
def DM (Z : Mem) (d e m f : Nat) : Mem := sset (LL Z) (41, 0, 0, 0) (mdC Z d e m (6 * f))
theorem DM_0 (Z : Mem) (d e m : Nat) : LL Z = DM Z d e m 0 := by
  unfold DM
  rw [show mdC Z d e m (6 * 0) = LL Z (41, 0, 0, 0) from (funext fun x => rf_out (by omega)).trans (LL_see (X := Z) (k := (41, 0, 0, 0)) (by decide)).symm, sset_id]
theorem DM_see {Z : Mem} {d e m f : Nat} {k : KN} (h : k.1 ≠ 41) : DM Z d e m f k = LL Z k := sset_ne _ _ (fun q => h (by rw [q]))
theorem DM_s {Z : Mem} {d e m f : Nat} : sset (DM Z d e m f) (41, 0, 0, 0) (st6 (DM Z d e m f (41, 0, 0, 0)) (24 * m + 6 * f) (rw6 (Z (37, 0, 0, 0)) (24 * (10 * d + e) + 6 * f))) = DM Z d e m (f + 1) := by
  unfold DM
  rw [sset_eq, sset_sset]
  refine congrArg (sset (LL Z) (41, 0, 0, 0)) ?_
  unfold mdC
  rw [← rf_st6]
  refine st6_congr (fun k _ => ?_)
  show Z (37, 0, 0, 0) (24 * (10 * d + e) + 6 * f + k) = Z (37, 0, 0, 0) (24 * (10 * d + e) + (24 * m + 6 * f + k - 24 * m))
  rw [show 24 * (10 * d + e) + (24 * m + 6 * f + k - 24 * m) = 24 * (10 * d + e) + 6 * f + k by omega]
theorem mdl_rows {Z : Mem} {d e m : Nat} : mdlM Z d e m (31, 0, 0, 0) = upd (Z (31, 0, 0, 0)) d (Z (31, 0, 0, 0) d + nI 1) ∧ mdlM Z d e m (40, 0, 0, 0) = upd (Z (40, 0, 0, 0)) m (nI e) ∧ mdlM Z d e m (41, 0, 0, 0) = mdC Z d e m 24 ∧ mdlM Z d e m (42, 0, 0, 0) = upd (Z (42, 0, 0, 0)) (6 * m + d) (Z (30, 0, 0, 0) 0 + nI 1) ∧ mdlM Z d e m (30, 0, 0, 0) = upd (thM Z 0 (30, 0, 0, 0)) 2 (nI (m + 1)) := by
  unfold mdlM
  refine ⟨?_, ?_, ?_, ?_, ?_⟩
  · rw [sset_ne _ _ (nek (by decide)), sset_ne _ _ (nek (by decide)), sset_ne _ _ (nek (by decide)), sset_ne _ _ (nek (by decide)), sset_eq]
  · rw [sset_ne _ _ (nek (by decide)), sset_ne _ _ (nek (by decide)), sset_ne _ _ (nek (by decide)), sset_eq]
  · rw [sset_ne _ _ (nek (by decide)), sset_ne _ _ (nek (by decide)), sset_eq]
  · rw [sset_ne _ _ (nek (by decide)), sset_eq]
  · rw [sset_eq]
theorem del_LAe {Z : Mem} {d e m a t : Nat} (hd : d < 6) (ha : Z (31, 0, 0, 0) d = nI a) (ht : Z (30, 0, 0, 0) 0 = nI t) : LAe (sset (sset (sset (sset (DM Z d e m 4) (40, 0, 0, 0) (upd ((DM Z d e m 4) (40, 0, 0, 0)) m (nI e))) (42, 0, 0, 0) (upd ((sset (DM Z d e m 4) (40, 0, 0, 0) (upd ((DM Z d e m 4) (40, 0, 0, 0)) m (nI e))) (42, 0, 0, 0)) (6 * m + d) (nI (t + 1)))) (45, 0, 0, 0) (upd ((sset (sset (DM Z d e m 4) (40, 0, 0, 0) (upd ((DM Z d e m 4) (40, 0, 0, 0)) m (nI e))) (42, 0, 0, 0) (upd ((sset (DM Z d e m 4) (40, 0, 0, 0) (upd ((DM Z d e m 4) (40, 0, 0, 0)) m (nI e))) (42, 0, 0, 0)) (6 * m + d) (nI (t + 1)))) (45, 0, 0, 0)) 2 (nI (m + 1)))) (45, 0, 0, 0) (upd ((sset (sset (sset (DM Z d e m 4) (40, 0, 0, 0) (upd ((DM Z d e m 4) (40, 0, 0, 0)) m (nI e))) (42, 0, 0, 0) (upd ((sset (DM Z d e m 4) (40, 0, 0, 0) (upd ((DM Z d e m 4) (40, 0, 0, 0)) m (nI e))) (42, 0, 0, 0)) (6 * m + d) (nI (t + 1)))) (45, 0, 0, 0) (upd ((sset (sset (DM Z d e m 4) (40, 0, 0, 0) (upd ((DM Z d e m 4) (40, 0, 0, 0)) m (nI e))) (42, 0, 0, 0) (upd ((sset (DM Z d e m 4) (40, 0, 0, 0) (upd ((DM Z d e m 4) (40, 0, 0, 0)) m (nI e))) (42, 0, 0, 0)) (6 * m + d) (nI (t + 1)))) (45, 0, 0, 0)) 2 (nI (m + 1)))) (45, 0, 0, 0)) (3 + d) (nI (a + 1)))) (LL (mdlM Z d e m)) := by
  obtain ⟨r31, r40, r41, r42, r30⟩ := mdl_rows (Z := Z) (d := d) (e := e) (m := m)
  have hs : ∀ kk : KN, kk.1 ≠ 40 → kk.1 ≠ 42 → kk.1 ≠ 45 → (sset (sset (sset (sset (DM Z d e m 4) (40, 0, 0, 0) (upd ((DM Z d e m 4) (40, 0, 0, 0)) m (nI e))) (42, 0, 0, 0) (upd ((sset (DM Z d e m 4) (40, 0, 0, 0) (upd ((DM Z d e m 4) (40, 0, 0, 0)) m (nI e))) (42, 0, 0, 0)) (6 * m + d) (nI (t + 1)))) (45, 0, 0, 0) (upd ((sset (sset (DM Z d e m 4) (40, 0, 0, 0) (upd ((DM Z d e m 4) (40, 0, 0, 0)) m (nI e))) (42, 0, 0, 0) (upd ((sset (DM Z d e m 4) (40, 0, 0, 0) (upd ((DM Z d e m 4) (40, 0, 0, 0)) m (nI e))) (42, 0, 0, 0)) (6 * m + d) (nI (t + 1)))) (45, 0, 0, 0)) 2 (nI (m + 1)))) (45, 0, 0, 0) (upd ((sset (sset (sset (DM Z d e m 4) (40, 0, 0, 0) (upd ((DM Z d e m 4) (40, 0, 0, 0)) m (nI e))) (42, 0, 0, 0) (upd ((sset (DM Z d e m 4) (40, 0, 0, 0) (upd ((DM Z d e m 4) (40, 0, 0, 0)) m (nI e))) (42, 0, 0, 0)) (6 * m + d) (nI (t + 1)))) (45, 0, 0, 0) (upd ((sset (sset (DM Z d e m 4) (40, 0, 0, 0) (upd ((DM Z d e m 4) (40, 0, 0, 0)) m (nI e))) (42, 0, 0, 0) (upd ((sset (DM Z d e m 4) (40, 0, 0, 0) (upd ((DM Z d e m 4) (40, 0, 0, 0)) m (nI e))) (42, 0, 0, 0)) (6 * m + d) (nI (t + 1)))) (45, 0, 0, 0)) 2 (nI (m + 1)))) (45, 0, 0, 0)) (3 + d) (nI (a + 1)))) kk = (DM Z d e m 4) kk := fun kk h40 h42 h45 => by
    rw [sset_ne _ _ (fun q => h45 (by rw [q])), sset_ne _ _ (fun q => h45 (by rw [q])), sset_ne _ _ (fun q => h42 (by rw [q])), sset_ne _ _ (fun q => h40 (by rw [q]))]
  have ho : ∀ kk : KN, kk.1 ≠ 30 → kk.1 ≠ 31 → kk.1 ≠ 40 → kk.1 ≠ 41 → kk.1 ≠ 42 → mdlM Z d e m kk = Z kk := fun kk a b c d e => mdl_see a b c d e
  have x40 : (sset (sset (sset (sset (DM Z d e m 4) (40, 0, 0, 0) (upd ((DM Z d e m 4) (40, 0, 0, 0)) m (nI e))) (42, 0, 0, 0) (upd ((sset (DM Z d e m 4) (40, 0, 0, 0) (upd ((DM Z d e m 4) (40, 0, 0, 0)) m (nI e))) (42, 0, 0, 0)) (6 * m + d) (nI (t + 1)))) (45, 0, 0, 0) (upd ((sset (sset (DM Z d e m 4) (40, 0, 0, 0) (upd ((DM Z d e m 4) (40, 0, 0, 0)) m (nI e))) (42, 0, 0, 0) (upd ((sset (DM Z d e m 4) (40, 0, 0, 0) (upd ((DM Z d e m 4) (40, 0, 0, 0)) m (nI e))) (42, 0, 0, 0)) (6 * m + d) (nI (t + 1)))) (45, 0, 0, 0)) 2 (nI (m + 1)))) (45, 0, 0, 0) (upd ((sset (sset (sset (DM Z d e m 4) (40, 0, 0, 0) (upd ((DM Z d e m 4) (40, 0, 0, 0)) m (nI e))) (42, 0, 0, 0) (upd ((sset (DM Z d e m 4) (40, 0, 0, 0) (upd ((DM Z d e m 4) (40, 0, 0, 0)) m (nI e))) (42, 0, 0, 0)) (6 * m + d) (nI (t + 1)))) (45, 0, 0, 0) (upd ((sset (sset (DM Z d e m 4) (40, 0, 0, 0) (upd ((DM Z d e m 4) (40, 0, 0, 0)) m (nI e))) (42, 0, 0, 0) (upd ((sset (DM Z d e m 4) (40, 0, 0, 0) (upd ((DM Z d e m 4) (40, 0, 0, 0)) m (nI e))) (42, 0, 0, 0)) (6 * m + d) (nI (t + 1)))) (45, 0, 0, 0)) 2 (nI (m + 1)))) (45, 0, 0, 0)) (3 + d) (nI (a + 1)))) (40, 0, 0, 0) = upd (Z (40, 0, 0, 0)) m (nI e) := by rw [sset_ne _ _ (nek (by decide)), sset_ne _ _ (nek (by decide)), sset_ne _ _ (nek (by decide)), sset_eq, DM_see (by decide), LL_see (by decide)]
  have x42 : (sset (sset (sset (sset (DM Z d e m 4) (40, 0, 0, 0) (upd ((DM Z d e m 4) (40, 0, 0, 0)) m (nI e))) (42, 0, 0, 0) (upd ((sset (DM Z d e m 4) (40, 0, 0, 0) (upd ((DM Z d e m 4) (40, 0, 0, 0)) m (nI e))) (42, 0, 0, 0)) (6 * m + d) (nI (t + 1)))) (45, 0, 0, 0) (upd ((sset (sset (DM Z d e m 4) (40, 0, 0, 0) (upd ((DM Z d e m 4) (40, 0, 0, 0)) m (nI e))) (42, 0, 0, 0) (upd ((sset (DM Z d e m 4) (40, 0, 0, 0) (upd ((DM Z d e m 4) (40, 0, 0, 0)) m (nI e))) (42, 0, 0, 0)) (6 * m + d) (nI (t + 1)))) (45, 0, 0, 0)) 2 (nI (m + 1)))) (45, 0, 0, 0) (upd ((sset (sset (sset (DM Z d e m 4) (40, 0, 0, 0) (upd ((DM Z d e m 4) (40, 0, 0, 0)) m (nI e))) (42, 0, 0, 0) (upd ((sset (DM Z d e m 4) (40, 0, 0, 0) (upd ((DM Z d e m 4) (40, 0, 0, 0)) m (nI e))) (42, 0, 0, 0)) (6 * m + d) (nI (t + 1)))) (45, 0, 0, 0) (upd ((sset (sset (DM Z d e m 4) (40, 0, 0, 0) (upd ((DM Z d e m 4) (40, 0, 0, 0)) m (nI e))) (42, 0, 0, 0) (upd ((sset (DM Z d e m 4) (40, 0, 0, 0) (upd ((DM Z d e m 4) (40, 0, 0, 0)) m (nI e))) (42, 0, 0, 0)) (6 * m + d) (nI (t + 1)))) (45, 0, 0, 0)) 2 (nI (m + 1)))) (45, 0, 0, 0)) (3 + d) (nI (a + 1)))) (42, 0, 0, 0) = upd (Z (42, 0, 0, 0)) (6 * m + d) (nI (t + 1)) := by rw [sset_ne _ _ (nek (by decide)), sset_ne _ _ (nek (by decide)), sset_eq, sset_ne _ _ (nek (by decide)), DM_see (by decide), LL_see (by decide)]
  have x45 : (sset (sset (sset (sset (DM Z d e m 4) (40, 0, 0, 0) (upd ((DM Z d e m 4) (40, 0, 0, 0)) m (nI e))) (42, 0, 0, 0) (upd ((sset (DM Z d e m 4) (40, 0, 0, 0) (upd ((DM Z d e m 4) (40, 0, 0, 0)) m (nI e))) (42, 0, 0, 0)) (6 * m + d) (nI (t + 1)))) (45, 0, 0, 0) (upd ((sset (sset (DM Z d e m 4) (40, 0, 0, 0) (upd ((DM Z d e m 4) (40, 0, 0, 0)) m (nI e))) (42, 0, 0, 0) (upd ((sset (DM Z d e m 4) (40, 0, 0, 0) (upd ((DM Z d e m 4) (40, 0, 0, 0)) m (nI e))) (42, 0, 0, 0)) (6 * m + d) (nI (t + 1)))) (45, 0, 0, 0)) 2 (nI (m + 1)))) (45, 0, 0, 0) (upd ((sset (sset (sset (DM Z d e m 4) (40, 0, 0, 0) (upd ((DM Z d e m 4) (40, 0, 0, 0)) m (nI e))) (42, 0, 0, 0) (upd ((sset (DM Z d e m 4) (40, 0, 0, 0) (upd ((DM Z d e m 4) (40, 0, 0, 0)) m (nI e))) (42, 0, 0, 0)) (6 * m + d) (nI (t + 1)))) (45, 0, 0, 0) (upd ((sset (sset (DM Z d e m 4) (40, 0, 0, 0) (upd ((DM Z d e m 4) (40, 0, 0, 0)) m (nI e))) (42, 0, 0, 0) (upd ((sset (DM Z d e m 4) (40, 0, 0, 0) (upd ((DM Z d e m 4) (40, 0, 0, 0)) m (nI e))) (42, 0, 0, 0)) (6 * m + d) (nI (t + 1)))) (45, 0, 0, 0)) 2 (nI (m + 1)))) (45, 0, 0, 0)) (3 + d) (nI (a + 1)))) (45, 0, 0, 0) = upd (upd (LL Z (45, 0, 0, 0)) 2 (nI (m + 1))) (3 + d) (nI (a + 1)) := by rw [sset_eq, sset_eq, sset_ne _ _ (nek (by decide)), sset_ne _ _ (nek (by decide)), DM_see (by decide)]
  refine ⟨fun kk hk => ?_, fun d2 e2 c _ _ _ => ?_, fun d2 e2 c _ _ _ => ?_, fun d2 e2 c _ _ _ => ?_, fun x _ => ?_, fun x _ => ?_, fun x _ => ?_, fun x hx => ?_, fun x hx => ?_, ?_⟩
  · rw [hs kk (by omega) (by omega) (by omega), DM_see (by omega), LL_see (by omega), LL_see (by omega), ho kk (by omega) (by omega) (by omega) (by omega) (by omega)]
  · rw [hs _ (by decide) (by decide) (by decide), DM_see (by decide), LL_see (by decide), LL_see (by decide), ho _ (by decide) (by decide) (by decide) (by decide) (by decide)]
  · rw [hs _ (by decide) (by decide) (by decide), DM_see (by decide), LL_see (by decide), LL_see (by decide), ho _ (by decide) (by decide) (by decide) (by decide) (by decide)]
  · rw [hs _ (by decide) (by decide) (by decide), DM_see (by decide), LL_see (by decide), LL_see (by decide), ho _ (by decide) (by decide) (by decide) (by decide) (by decide)]
  · rw [x40, LL_see (by decide), r40]
  · rw [hs _ (by decide) (by decide) (by decide), LL_see (by decide), r41]
    unfold DM
    rw [sset_eq]
  · rw [x42, LL_see (by decide), r42, ht, nI_add]
  · rw [hs _ (by decide) (by decide) (by decide), DM_see (by decide), kc_lae (ho (34, 0, 0, 0) (by decide) (by decide) (by decide) (by decide) (by decide)) (ho (38, 0, 0, 0) (by decide) (by decide) (by decide) (by decide) (by decide))]
  · rw [hs _ (by decide) (by decide) (by decide), DM_see (by decide), wc_lae (ho (32, 0, 0, 0) (by decide) (by decide) (by decide) (by decide) (by decide)) (ho (33, 0, 0, 0) (by decide) (by decide) (by decide) (by decide) (by decide))]
  · rw [x45]
    refine gc_lae ?_ ?_ ?_ (fun d2 _ => ?_)
    · rw [r30, ud_ne _ _ (by decide), th_30 (by decide), ud_ne _ _ (by omega), ud_ne _ _ (by decide), gc_0]
    · rw [r30, ud_ne _ _ (by decide), th_30 (by decide), ud_ne _ _ (by omega), ud_ne _ _ (by decide), gc_1]
    · rw [r30, ud_eq, ud_ne _ _ (by omega), ud_eq]
    · rw [r31, ha, nI_add]
      by_cases q : d2 = d
      · rw [q, ud_eq, ud_eq]
      · rw [ud_ne _ _ q, ud_ne _ _ (by omega), ud_ne _ _ (by omega), gc_3]
/-- what stays of a row that is shared anew, field by field -/
def shX (F : Int32) (q e f i : Nat) (r : Nat → Int32) : Nat → Int32 := fun x => if (x / 24 % 10 = e ∧ x / 240 / 2 = q ∧ (x % 24 / 6 < f ∨ (x % 24 / 6 = f ∧ x / 240 % 2 < i))) ∧ bit F (x % 24 / 6) = false then 0 else r x
theorem shX_0 (F : Int32) (q e : Nat) (r : Nat → Int32) : shX F q e 0 0 r = r := funext fun x => if_neg (fun h => by omega)
theorem shX_n (F : Int32) (q e f : Nat) (r : Nat → Int32) : shX F q e f 2 r = shX F q e (f + 1) 0 r := by
  funext x
  unfold shX
  refine if_iff (and_congr ?_ Iff.rfl) _ _
  constructor
  · rintro ⟨a, b, c⟩; exact ⟨a, b, by omega⟩
  · rintro ⟨a, b, c⟩; exact ⟨a, b, by omega⟩
theorem shX_s {F : Int32} {q e f i : Nat} {r v : Nat → Int32} (he : e < 10) (hi : i < 2) (hf : f < 4) (hv : ∀ k, k < 6 → v k = if bit F f = true then shX F q e f i r (24 * (10 * (2 * q + i) + e) + 6 * f + k) else 0) : st6 (shX F q e f i r) (24 * (10 * (2 * q + i) + e) + 6 * f) v = shX F q e f (i + 1) r := by
  funext x
  by_cases w : 24 * (10 * (2 * q + i) + e) + 6 * f ≤ x ∧ x < 24 * (10 * (2 * q + i) + e) + 6 * f + 6
  · obtain ⟨k, hk, rfl⟩ : ∃ k, k < 6 ∧ x = 24 * (10 * (2 * q + i) + e) + 6 * f + k := ⟨x - (24 * (10 * (2 * q + i) + e) + 6 * f), by omega, by omega⟩
    rw [st6_in hk, hv k hk]
    unfold shX
    rw [show (24 * (10 * (2 * q + i) + e) + 6 * f + k) % 24 / 6 = f by omega]
    cases hb : bit F f with
    | false => rw [if_neg (by decide), if_pos ⟨by omega, rfl⟩]
    | true => rw [if_pos rfl, if_neg (fun h => absurd h.2 (by decide)), if_neg (fun h => absurd h.2 (by decide))]
  · rw [st6_out w]
    unfold shX
    refine if_iff (and_congr ?_ Iff.rfl) _ _
    constructor
    · rintro ⟨a, b, c⟩; exact ⟨a, b, by omega⟩
    · rintro ⟨a, b, c⟩; exact ⟨a, b, by omega⟩
theorem shX_fin {F : Int32} {q e d2 e2 c : Nat} {r : Nat → Int32} (he2 : e2 < 10) (hc : c < 24) : shX F q e 4 0 r (cl d2 e2 c) = if e2 = e ∧ d2 / 2 = q then (if bit F (c / 6) then r (cl d2 e2 c) else 0) else r (cl d2 e2 c) := by
  unfold shX
  rw [show cl d2 e2 c / 24 % 10 = e2 by unfold cl; omega, show cl d2 e2 c / 240 = d2 by unfold cl; omega, show cl d2 e2 c % 24 / 6 = c / 6 by unfold cl; omega]
  by_cases w : e2 = e ∧ d2 / 2 = q
  · rw [if_pos w]
    cases hb : bit F (c / 6) with
    | false => rw [if_pos ⟨⟨w.1, w.2, Or.inl (by omega)⟩, rfl⟩, if_neg (by decide)]
    | true => rw [if_neg (fun h => absurd h.2 (by decide)), if_pos rfl]
  · rw [if_neg w, if_neg (fun h => w ⟨h.1.1, h.1.2.1⟩)]
def ShM (Z : Mem) (e q x f i : Nat) : Mem := sset (sset (sset (LL Z) (44, 0, 0, 0) (upd (LL Z (44, 0, 0, 0)) (4 * e + 1 + q) (nI x))) (35, 0, 0, 0) (shX (nI x) q e f i (Z (35, 0, 0, 0)))) (37, 0, 0, 0) (shX (nI x) q e f i (Z (37, 0, 0, 0)))
theorem ShM_35 {Z : Mem} {e q x f i : Nat} : ShM Z e q x f i (35, 0, 0, 0) = shX (nI x) q e f i (Z (35, 0, 0, 0)) := by
  unfold ShM
  rw [sset_ne _ _ (nek (by decide)), sset_eq]
theorem ShM_37 {Z : Mem} {e q x f i : Nat} : ShM Z e q x f i (37, 0, 0, 0) = shX (nI x) q e f i (Z (37, 0, 0, 0)) := sset_eq _ _ _
theorem ShM_44 {Z : Mem} {e q x f i : Nat} : ShM Z e q x f i (44, 0, 0, 0) = upd (LL Z (44, 0, 0, 0)) (4 * e + 1 + q) (nI x) := by
  unfold ShM
  rw [sset_ne _ _ (nek (by decide)), sset_ne _ _ (nek (by decide)), sset_eq]
theorem ShM_see {Z : Mem} {e q x f i : Nat} {k : KN} (h35 : k.1 ≠ 35) (h37 : k.1 ≠ 37) (h44 : k.1 ≠ 44) : ShM Z e q x f i k = LL Z k := by
  unfold ShM
  rw [sset_ne _ _ (fun z => h37 (by rw [z])), sset_ne _ _ (fun z => h35 (by rw [z])), sset_ne _ _ (fun z => h44 (by rw [z]))]
theorem ShM_0 (Z : Mem) (e q x : Nat) : sset (LL Z) (44, 0, 0, 0) (upd (LL Z (44, 0, 0, 0)) (4 * e + 1 + q) (nI x)) = ShM Z e q x 0 0 := by
  funext kk
  unfold ShM
  rw [shX_0, shX_0]
  by_cases q37 : kk = (37, 0, 0, 0)
  · rw [q37, sset_eq, sset_ne _ _ (nek (by decide)), LL_see (by decide)]
  · rw [sset_ne _ _ q37]
    by_cases q35 : kk = (35, 0, 0, 0)
    · rw [q35, sset_eq, sset_ne _ _ (nek (by decide)), LL_see (by decide)]
    · rw [sset_ne _ _ q35]
theorem ShM_n {Z : Mem} {e q x f : Nat} : ShM Z e q x f 2 = ShM Z e q x (f + 1) 0 := by
  unfold ShM
  rw [shX_n, shX_n]
theorem ShM_s {Z : Mem} {e q x f i : Nat} {VA VN : Nat → Int32} (he : e < 10) (hi : i < 2) (hf : f < 4) (ha : ∀ k, k < 6 → VA k = if bit (nI x) f = true then ShM Z e q x f i (35, 0, 0, 0) (24 * (10 * (2 * q + i) + e) + 6 * f + k) else 0) (hn : ∀ k, k < 6 → VN k = if bit (nI x) f = true then ShM Z e q x f i (37, 0, 0, 0) (24 * (10 * (2 * q + i) + e) + 6 * f + k) else 0) : sset (sset (ShM Z e q x f i) (35, 0, 0, 0) (st6 (ShM Z e q x f i (35, 0, 0, 0)) (24 * (10 * (2 * q + i) + e) + 6 * f) VA)) (37, 0, 0, 0) (st6 (sset (ShM Z e q x f i) (35, 0, 0, 0) (st6 (ShM Z e q x f i (35, 0, 0, 0)) (24 * (10 * (2 * q + i) + e) + 6 * f) VA) (37, 0, 0, 0)) (24 * (10 * (2 * q + i) + e) + 6 * f) VN) = ShM Z e q x f (i + 1) := by
  rw [ShM_35] at ha
  rw [ShM_37] at hn
  funext kk
  by_cases q37 : kk = (37, 0, 0, 0)
  · rw [q37, sset_eq, ShM_37, sset_ne _ _ (nek (by decide)), ShM_37, shX_s he hi hf hn]
  · rw [sset_ne _ _ q37]
    by_cases q35 : kk = (35, 0, 0, 0)
    · rw [q35, sset_eq, ShM_35, ShM_35, shX_s he hi hf ha]
    · rw [sset_ne _ _ q35]
      unfold ShM
      rw [sset_ne _ _ q37, sset_ne _ _ q35, sset_ne _ _ q37, sset_ne _ _ q35]
theorem shr_LAe {Z : Mem} {e q x : Nat} (he : e < 2) (hq : q < 3) : LAe (ShM Z e q x 4 0) (LL (mshM Z e q (nI x))) := by
  have ho : ∀ kk : KN, kk.1 ≠ 30 → kk.1 ≠ 33 → kk.1 ≠ 35 → kk.1 ≠ 37 → mshM Z e q (nI x) kk = Z kk := fun kk a b c d => msh_see a b c d
  have r37 : mshM Z e q (nI x) (37, 0, 0, 0) = shR (nI x) q e (Z (37, 0, 0, 0)) 2 := sset_eq _ _ _
  have r35 : mshM Z e q (nI x) (35, 0, 0, 0) = shR (nI x) q e (Z (35, 0, 0, 0)) 2 := by
    unfold mshM
    rw [sset_ne _ _ (nek (by decide)), sset_eq]
  have r33 : mshM Z e q (nI x) (33, 0, 0, 0) = upd (Z (33, 0, 0, 0)) (3 * e + q) (nI x) := by
    unfold mshM
    rw [sset_ne _ _ (nek (by decide)), sset_ne _ _ (nek (by decide)), sset_eq]
  have r30 : mshM Z e q (nI x) (30, 0, 0, 0) = thM Z 0 (30, 0, 0, 0) := by
    unfold mshM
    rw [sset_ne _ _ (nek (by decide)), sset_ne _ _ (nek (by decide)), sset_ne _ _ (nek (by decide))]
  refine ⟨fun kk hk => ?_, fun d2 e2 c hd2 he2 hc => ?_, fun d2 e2 c hd2 he2 hc => ?_, fun d2 e2 c _ _ _ => ?_, fun x _ => ?_, fun x _ => ?_, fun x _ => ?_, fun x hx => ?_, fun y hy => ?_, ?_⟩
  · rw [ShM_see (by omega) (by omega) (by omega), LL_see (by omega), LL_see (by omega), ho kk (by omega) (by omega) (by omega) (by omega)]
  · rw [ShM_35, LL_see (by decide), r35, shX_fin (by omega) hc, shR_at (by omega) (by omega) hc]
  · rw [ShM_37, LL_see (by decide), r37, shX_fin (by omega) hc, shR_at (by omega) (by omega) hc]
  · rw [ShM_see (by decide) (by decide) (by decide), LL_see (by decide), LL_see (by decide), ho _ (by decide) (by decide) (by decide) (by decide)]
  · rw [ShM_see (by decide) (by decide) (by decide), LL_see (by decide), LL_see (by decide), ho _ (by decide) (by decide) (by decide) (by decide)]
  · rw [ShM_see (by decide) (by decide) (by decide), LL_see (by decide), LL_see (by decide), ho _ (by decide) (by decide) (by decide) (by decide)]
  · rw [ShM_see (by decide) (by decide) (by decide), LL_see (by decide), LL_see (by decide), ho _ (by decide) (by decide) (by decide) (by decide)]
  · rw [ShM_see (by decide) (by decide) (by decide), kc_lae (ho (34, 0, 0, 0) (by decide) (by decide) (by decide) (by decide)) (ho (38, 0, 0, 0) (by decide) (by decide) (by decide) (by decide))]
  · rw [ShM_44, LL_44, LL_44]
    show (if y % 4 = 0 then mshM Z e q (nI x) (32, 0, 0, 0) (y / 4) else mshM Z e q (nI x) (33, 0, 0, 0) (3 * (y / 4) + (y % 4 - 1))) = _
    rw [r33, ho (32, 0, 0, 0) (by decide) (by decide) (by decide) (by decide)]
    by_cases w : y = 4 * e + 1 + q
    · rw [if_neg (by omega), w, ud_eq, show 3 * ((4 * e + 1 + q) / 4) + ((4 * e + 1 + q) % 4 - 1) = 3 * e + q by omega, ud_eq]
    · rw [ud_ne _ _ w]
      show _ = (if y % 4 = 0 then Z (32, 0, 0, 0) (y / 4) else Z (33, 0, 0, 0) (3 * (y / 4) + (y % 4 - 1)))
      by_cases w2 : y % 4 = 0
      · rw [if_pos w2, if_pos w2]
      · rw [if_neg w2, if_neg w2, ud_ne _ _ (by omega)]
  · rw [ShM_see (by decide) (by decide) (by decide)]
    refine gc_lae ?_ ?_ ?_ (fun d2 _ => ?_)
    · rw [r30, th_30 (by decide), gc_0]
    · rw [r30, th_30 (by decide), gc_1]
    · rw [r30, th_30 (by decide), gc_2]
    · rw [ho (31, 0, 0, 0) (by decide) (by decide) (by decide) (by decide), gc_3]
/-- a world behind an act -/
def NY (cn : Nat) (gm1 : GM) (Ks1 : List KN) (Z1 : Mem) : Prop := LV gm1 Ks1 ∧ LW gm1 Ks1 ∧ GM2 gm1 ∧ LWT Z1 gm1 cn
theorem aeq_of {gm : GM} {Ks : List KN} {ad ad1 : KN → Nat} (hL : LV gm Ks) (hk : ∀ i : KN, i ∈ Ks → i.1 ≠ 8 → ad1 i = ad i) : AEq ad ad1 := fun j hj => by
  rcases (show j = 0 ∨ j = 35 ∨ j = 37 ∨ j = 39 ∨ j = 40 ∨ j = 41 ∨ j = 42 ∨ j = 43 ∨ j = 44 ∨ j = 45 by omega) with rfl | rfl | rfl | rfl | rfl | rfl | rfl | rfl | rfl | rfl
  · exact hk _ (hL (0, 0, 0, 0) ⟨rfl, rfl, rfl⟩) (by decide)
  · exact hk _ (hL (35, 0, 0, 0) ⟨by decide, rfl, rfl, rfl⟩) (by decide)
  · exact hk _ (hL (37, 0, 0, 0) ⟨by decide, rfl, rfl, rfl⟩) (by decide)
  · exact hk _ (hL (39, 0, 0, 0) ⟨by decide, rfl, rfl, rfl⟩) (by decide)
  · exact hk _ (hL (40, 0, 0, 0) ⟨by decide, rfl, rfl, rfl⟩) (by decide)
  · exact hk _ (hL (41, 0, 0, 0) ⟨by decide, rfl, rfl, rfl⟩) (by decide)
  · exact hk _ (hL (42, 0, 0, 0) ⟨by decide, rfl, rfl, rfl⟩) (by decide)
  · exact hk _ (hL (43, 0, 0, 0) ⟨by decide, rfl, rfl, rfl⟩) (by decide)
  · exact hk _ (hL (44, 0, 0, 0) ⟨by decide, rfl, rfl, rfl⟩) (by decide)
  · exact hk _ (hL (45, 0, 0, 0) ⟨by decide, rfl, rfl, rfl⟩) (by decide)
