/-! joining, as the law does it -/
theorem if_iff {α : Type} {p q : Prop} {hp : Decidable p} {hq : Decidable q} (h : p ↔ q) (a b : α) : @ite α p hp a b = @ite α q hq a b := by
  by_cases z : p
  · rw [if_pos z, if_pos (h.mp z)]
  · rw [if_neg z, if_neg (fun y => z (h.mpr y))]
theorem mgA_jnd {a b sp sq : Int32} (ha : 0 ≤ a.toInt) (hb : 0 ≤ b.toInt) (hp : 0 ≤ sp.toInt) (hq : 0 ≤ sq.toInt) : mgA a b sp sq = if a = b then a else if sq < a then a else if sp < b then b else 0 := by
  unfold mgA
  by_cases h1 : a = b
  · subst h1
    rw [if_pos rfl]
    by_cases h2 : a ≤ 0
    · have e := (le0z ha).mp h2
      rw [if_neg (fun q => (mgF_iff.mp q).1 h2), if_neg (fun q => (mgS_iff.mp q).1 h2), e]
      rfl
    · rw [if_pos (mgF_iff.mpr ⟨h2, Or.inl rfl⟩)]
  · rw [if_neg h1]
    by_cases h2 : sq < a
    · rw [if_pos h2, if_pos (mgF_iff.mpr ⟨nle0 hq (lt_not_le h2), Or.inr (lt_not_le h2)⟩)]
    · rw [if_neg h2, if_neg (fun q => by rcases (mgF_iff.mp q).2 with z | z; exact h1 z; exact z (not_lt_le h2))]
      by_cases h3 : sp < b
      · rw [if_pos h3, if_pos (mgS_iff.mpr ⟨nle0 hp (lt_not_le h3), Or.inr (lt_not_le h3)⟩)]
      · rw [if_neg h3, if_neg (fun q => by rcases (mgS_iff.mp q).2 with z | z; exact h1 z; exact z (not_lt_le h3))]
        rfl
theorem mgX_frs (s a : Int32) : mgX s a = (decide (0 < s) && !decide (s = a)) := by
  unfold mgX
  by_cases h : s ≤ 0
  · rw [decide_eq_true h, decide_eq_false (le_not_lt h)]; rfl
  · rw [decide_eq_false h, decide_eq_true (not_le_lt h)]; rfl
theorem jn_rows {J : Mem} {d o e : Nat} (he : e < 10) (hne : d ≠ o) : ∀ f, f ≤ 4 → ∀ d2 e2 c, e2 < 10 → c < 24 →
    (jnM J d o e f (35, 0, 0, 0) (cl d2 e2 c) = if e2 = e ∧ (d2 = d ∨ d2 = o) ∧ c < 6 * f ∧ shP J d o e (c / 6) = true then mgsA J (cl d e c) (cl o e c) else J (35, 0, 0, 0) (cl d2 e2 c)) ∧
    (jnM J d o e f (37, 0, 0, 0) (cl d2 e2 c) = if e2 = e ∧ (d2 = d ∨ d2 = o) ∧ c < 6 * f ∧ shP J d o e (c / 6) = true then imax (J (37, 0, 0, 0) (cl d e c)) (J (37, 0, 0, 0) (cl o e c)) else J (37, 0, 0, 0) (cl d2 e2 c))
  | 0, _, d2, e2, c, _, _ => by
    rw [if_neg (fun z => Nat.not_lt_zero _ z.2.2.1), if_neg (fun z => Nat.not_lt_zero _ z.2.2.1)]
    exact ⟨rfl, rfl⟩
  | f + 1, hf, d2, e2, c, he2, hc => by
    have ih := jn_rows (J := J) he hne f (by omega)
    obtain ⟨i1, i2⟩ := ih d2 e2 c he2 hc
    rw [jnM]
    by_cases hs : shP J d o e f = true
    · rw [if_pos hs]
      obtain ⟨a1, -, a3⟩ := jf_rows (J := jnM J d o e f) (d := d) (o := o) (e := e) (f := f) he (by omega) hne 6 (Nat.le_refl 6) d2 e2 c he2 hc
      rw [a1, a3]
      by_cases q : inF d o e f 6 d2 e2 c
      · have qi := q
        obtain ⟨q1, q2, q3, q4⟩ := q
        have e1 : c / 6 = f := by omega
        obtain ⟨b1, b2⟩ := ih d e c he hc
        obtain ⟨c1, c2⟩ := ih o e c he hc
        rw [if_neg (fun z => by have := z.2.2.1; omega)] at b1 b2 c1 c2
        have qj : e2 = e ∧ (d2 = d ∨ d2 = o) ∧ c < 6 * (f + 1) ∧ shP J d o e (c / 6) = true := ⟨q1, q2, by omega, by rw [e1]; exact hs⟩
        rw [if_pos qi, if_pos qi, if_pos qj, if_pos qj]
        unfold mgsA
        rw [b1, b2, c1, c2]
        exact ⟨rfl, rfl⟩
      · rw [if_neg q, if_neg q, i1, i2]
        have e1 : (e2 = e ∧ (d2 = d ∨ d2 = o) ∧ c < 6 * f ∧ shP J d o e (c / 6) = true) ↔ (e2 = e ∧ (d2 = d ∨ d2 = o) ∧ c < 6 * (f + 1) ∧ shP J d o e (c / 6) = true) := by
          constructor
          · rintro ⟨z1, z2, z3, z4⟩; exact ⟨z1, z2, by omega, z4⟩
          · rintro ⟨z1, z2, z3, z4⟩
            refine ⟨z1, z2, ?_, z4⟩
            rcases Nat.lt_or_ge c (6 * f) with z | z
            · exact z
            · exact absurd ⟨z1, z2, z, by omega⟩ q
        rw [if_iff e1, if_iff e1]
        exact ⟨rfl, rfl⟩
    · rw [if_neg hs, i1, i2]
      have e1 : (e2 = e ∧ (d2 = d ∨ d2 = o) ∧ c < 6 * f ∧ shP J d o e (c / 6) = true) ↔ (e2 = e ∧ (d2 = d ∨ d2 = o) ∧ c < 6 * (f + 1) ∧ shP J d o e (c / 6) = true) := by
        constructor
        · rintro ⟨z1, z2, z3, z4⟩; exact ⟨z1, z2, by omega, z4⟩
        · rintro ⟨z1, z2, z3, z4⟩
          refine ⟨z1, z2, ?_, z4⟩
          rcases Nat.lt_or_ge c (6 * f) with z | z
          · exact z
          · have e2 : c / 6 = f := by omega
            rw [e2] at z4
            exact absurd z4 hs
      rw [if_iff e1, if_iff e1]
      exact ⟨rfl, rfl⟩
theorem kbo_o {X : Mem} {d o e : Nat} {k : KN} (h : k.1 ≠ 34) : kboM X d o e k = X k := kbo_see h
theorem kbo_shP {X : Mem} {d o e f : Nat} : shP (kboM X d o e) d o e f = shP X d o e f := shP_congr (kbo_see (by decide)) (kbo_see (by decide))
abbrev jT (X : Mem) (d o e f : Nat) : Nat → Int32 := jnd (rw6 (X (35, 0, 0, 0)) (24 * (10 * d + e) + 6 * f)) (rw6 (X (35, 0, 0, 0)) (24 * (10 * o + e) + 6 * f)) (rw6 (X (37, 0, 0, 0)) (24 * (10 * d + e) + 6 * f)) (rw6 (X (37, 0, 0, 0)) (24 * (10 * o + e) + 6 * f))
abbrev jS (X : Mem) (d o e f : Nat) : Nat → Int32 := gM (rw6 (X (37, 0, 0, 0)) (24 * (10 * d + e) + 6 * f)) (rw6 (X (37, 0, 0, 0)) (24 * (10 * o + e) + 6 * f))
/-- what a joining gains, the first fields -/
def lgN (X : Mem) (d o e : Nat) : Nat → Nat
  | 0 => 0
  | f + 1 => lgN X d o e f + if shP X d o e f then frs (rw6 (X (35, 0, 0, 0)) (24 * (10 * d + e) + 6 * f)) (jT X d o e f) + frs (rw6 (X (35, 0, 0, 0)) (24 * (10 * o + e) + 6 * f)) (jT X d o e f) else 0
theorem lgN_le (X : Mem) (d o e : Nat) : ∀ f, lgN X d o e f ≤ 12 * f
  | 0 => Nat.le_refl 0
  | f + 1 => by
    have ih := lgN_le X d o e f
    rw [lgN]
    split
    · have := frs_le (rw6 (X (35, 0, 0, 0)) (24 * (10 * d + e) + 6 * f)) (jT X d o e f)
      have := frs_le (rw6 (X (35, 0, 0, 0)) (24 * (10 * o + e) + 6 * f)) (jT X d o e f)
      omega
    · omega
abbrev jnX (X : Mem) (d o e f : Nat) : Mem := jnM (kboM X d o e) d o e f
def JM (X : Mem) (d o e f : Nat) : Mem := sset (sset (LL X) (35, 0, 0, 0) (jnX X d o e f (35, 0, 0, 0))) (37, 0, 0, 0) (jnX X d o e f (37, 0, 0, 0))
theorem JM_0 (X : Mem) (d o e : Nat) : LL X = JM X d o e 0 := by
  unfold JM
  have h35 : jnX X d o e 0 (35, 0, 0, 0) = LL X (35, 0, 0, 0) := (kbo_see (by decide)).trans (LL_see (by decide)).symm
  have h37 : jnX X d o e 0 (37, 0, 0, 0) = LL X (37, 0, 0, 0) := (kbo_see (by decide)).trans (LL_see (by decide)).symm
  rw [h35, sset_id, h37, sset_id]
theorem JM_35 {X : Mem} {d o e f : Nat} : JM X d o e f (35, 0, 0, 0) = jnX X d o e f (35, 0, 0, 0) := by
  unfold JM
  rw [sset_ne _ _ (nek (by decide)), sset_eq]
theorem JM_37 {X : Mem} {d o e f : Nat} : JM X d o e f (37, 0, 0, 0) = jnX X d o e f (37, 0, 0, 0) := sset_eq _ _ _
theorem JM_see {X : Mem} {d o e f : Nat} {k : KN} (h35 : k.1 ≠ 35) (h37 : k.1 ≠ 37) : JM X d o e f k = LL X k := by
  unfold JM
  rw [sset_ne _ _ (fun q => h37 (by rw [q])), sset_ne _ _ (fun q => h35 (by rw [q]))]
theorem J_n {X : Mem} {d o e f : Nat} (h : shP X d o e f = false) : JM X d o e f = JM X d o e (f + 1) := by
  have e1 : jnX X d o e (f + 1) = jnX X d o e f := by
    show jnM (kboM X d o e) d o e (f + 1) = _
    rw [jnM, kbo_shP, h, if_neg (by decide)]
  unfold JM
  rw [e1]
/-- at a field that isn't joined yet -/
theorem J_at {X : Mem} {d o e f k d2 : Nat} (he : e < 2) (hne : d ≠ o) (hf : f < 4) (hk : k < 6) : JM X d o e f (35, 0, 0, 0) (24 * (10 * d2 + e) + 6 * f + k) = X (35, 0, 0, 0) (24 * (10 * d2 + e) + 6 * f + k) ∧ JM X d o e f (37, 0, 0, 0) (24 * (10 * d2 + e) + 6 * f + k) = X (37, 0, 0, 0) (24 * (10 * d2 + e) + 6 * f + k) := by
  obtain ⟨a, b⟩ := jn_rows (J := kboM X d o e) (show e < 10 by omega) hne f (by omega) d2 e (6 * f + k) (by omega) (by omega)
  rw [if_neg (fun z => by have := z.2.2.1; omega)] at a b
  rw [show cl d2 e (6 * f + k) = 24 * (10 * d2 + e) + 6 * f + k by unfold cl; omega] at a b
  rw [JM_35, JM_37]
  exact ⟨a.trans (by rw [kbo_see (by decide)]), b.trans (by rw [kbo_see (by decide)])⟩
/-- a field written -/
def J4 (X : Mem) (d o e f : Nat) (T S U : Nat → Int32) : Mem :=
  sset (sset (sset (sset (JM X d o e f) (35, 0, 0, 0) (st6 (JM X d o e f (35, 0, 0, 0)) (24 * (10 * d + e) + 6 * f) T)) (35, 0, 0, 0) (st6 (st6 (JM X d o e f (35, 0, 0, 0)) (24 * (10 * d + e) + 6 * f) T) (24 * (10 * o + e) + 6 * f) T)) (37, 0, 0, 0) (st6 (JM X d o e f (37, 0, 0, 0)) (24 * (10 * d + e) + 6 * f) S)) (37, 0, 0, 0) (st6 (st6 (JM X d o e f (37, 0, 0, 0)) (24 * (10 * d + e) + 6 * f) S) (24 * (10 * o + e) + 6 * f) U)
theorem st6_cl {r : Nat → Int32} {d e f d2 e2 c : Nat} {v : Nat → Int32} (he : e < 10) (he2 : e2 < 10) (hf : f < 4) (hc : c < 24) : st6 r (24 * (10 * d + e) + 6 * f) v (cl d2 e2 c) = if d2 = d ∧ e2 = e ∧ 6 * f ≤ c ∧ c < 6 * f + 6 then v (c - 6 * f) else r (cl d2 e2 c) := by
  by_cases q : d2 = d ∧ e2 = e ∧ 6 * f ≤ c ∧ c < 6 * f + 6
  · obtain ⟨rfl, rfl, q3, q4⟩ := q
    rw [if_pos ⟨rfl, rfl, q3, q4⟩, show cl d2 e2 c = 24 * (10 * d2 + e2) + 6 * f + (c - 6 * f) by unfold cl; omega, st6_in (by omega)]
  · rw [if_neg q, st6_out]
    rintro ⟨z1, z2⟩
    have h1 : cl d2 e2 c = cl d e (6 * f + (cl d2 e2 c - (24 * (10 * d + e) + 6 * f))) := by unfold cl at z1 z2 ⊢; omega
    have h2 := cl_inj he2 he hc (by omega) h1
    exact q ⟨h2.1, h2.2.1, by omega, by omega⟩
theorem J_s {X : Mem} {d o e f : Nat} {T S U : Nat → Int32} (hB : BR X) (hd : d < 6) (ho : o < 6) (he : e < 2) (hne : d ≠ o) (hf : f < 4) (hs : shP X d o e f = true) (hT : ∀ k, k < 6 → T k = jT X d o e f k) (hS : ∀ k, k < 6 → S k = jS X d o e f k) (hU : ∀ k, k < 6 → U k = jS X d o e f k) : LAe (J4 X d o e f T S U) (JM X d o e (f + 1)) := by
  have r35 : J4 X d o e f T S U (35, 0, 0, 0) = st6 (st6 (JM X d o e f (35, 0, 0, 0)) (24 * (10 * d + e) + 6 * f) T) (24 * (10 * o + e) + 6 * f) T := by
    unfold J4
    rw [sset_ne _ _ (nek (by decide)), sset_ne _ _ (nek (by decide)), sset_eq]
  have r37 : J4 X d o e f T S U (37, 0, 0, 0) = st6 (st6 (JM X d o e f (37, 0, 0, 0)) (24 * (10 * d + e) + 6 * f) S) (24 * (10 * o + e) + 6 * f) U := sset_eq _ _ _
  have hs4 : ∀ k : KN, k.1 ≠ 35 → k.1 ≠ 37 → JM X d o e (f + 1) k = J4 X d o e f T S U k := fun k h35 h37 => by
    unfold J4
    rw [JM_see h35 h37, sset_ne _ _ (fun q => h37 (by rw [q])), sset_ne _ _ (fun q => h37 (by rw [q])), sset_ne _ _ (fun q => h35 (by rw [q])), sset_ne _ _ (fun q => h35 (by rw [q])), JM_see h35 h37]
  have key := fun d2 e2 c (he2 : e2 < 2) (hc : c < 24) => jn_rows (J := kboM X d o e) (show e < 10 by omega) hne (f + 1) (by omega) d2 e2 c (by omega) hc
  have key0 := fun d2 e2 c (he2 : e2 < 2) (hc : c < 24) => jn_rows (J := kboM X d o e) (show e < 10 by omega) hne f (by omega) d2 e2 c (by omega) hc
  have nn : ∀ {x : Int32}, sm6 x → 0 ≤ x.toInt := fun h => h.1
  have hA : ∀ c, c < 24 → 6 * f ≤ c → c < 6 * f + 6 → mgsA (kboM X d o e) (cl d e c) (cl o e c) = jT X d o e f (c - 6 * f) := fun c hc h1 h2 => by
    unfold mgsA
    rw [kbo_see (by decide), kbo_see (by decide), mgA_jnd (nn (hB.1 _)) (nn (hB.1 _)) (nn (hB.2.1 _)) (nn (hB.2.1 _))]
    have e1 : cl d e c = 24 * (10 * d + e) + 6 * f + (c - 6 * f) := by unfold cl; omega
    have e2 : cl o e c = 24 * (10 * o + e) + 6 * f + (c - 6 * f) := by unfold cl; omega
    rw [e1, e2]
    rfl
  have hM : ∀ c, c < 24 → 6 * f ≤ c → c < 6 * f + 6 → imax (kboM X d o e (37, 0, 0, 0) (cl d e c)) (kboM X d o e (37, 0, 0, 0) (cl o e c)) = jS X d o e f (c - 6 * f) := fun c hc h1 h2 => by
    rw [kbo_see (by decide)]
    have e1 : cl d e c = 24 * (10 * d + e) + 6 * f + (c - 6 * f) := by unfold cl; omega
    have e2 : cl o e c = 24 * (10 * o + e) + 6 * f + (c - 6 * f) := by unfold cl; omega
    rw [e1, e2]
    rfl
  have hc6 : ∀ c, 6 * f ≤ c → c < 6 * f + 6 → shP (kboM X d o e) d o e (c / 6) = true := fun c h1 h2 => by
    rw [show c / 6 = f by omega, kbo_shP]
    exact hs
  refine ⟨fun k hk => hs4 k (by omega) (by omega), fun d2 e2 c hd2 he2 hc => ?_, fun d2 e2 c hd2 he2 hc => ?_, fun d2 e2 c _ _ _ => by rw [hs4 _ (by decide) (by decide)], fun x _ => by rw [hs4 _ (by decide) (by decide)], fun x _ => by rw [hs4 _ (by decide) (by decide)], fun x _ => by rw [hs4 _ (by decide) (by decide)], fun x _ => by rw [hs4 _ (by decide) (by decide)], fun x _ => by rw [hs4 _ (by decide) (by decide)], fun x _ => by rw [hs4 _ (by decide) (by decide)]⟩
  · rw [r35, JM_35, JM_35, st6_cl (by omega) (by omega) hf hc, st6_cl (by omega) (by omega) hf hc, show jnX X d o e (f + 1) (35, 0, 0, 0) (cl d2 e2 c) = _ from (key d2 e2 c he2 hc).1]
    by_cases q2 : d2 = o ∧ e2 = e ∧ 6 * f ≤ c ∧ c < 6 * f + 6
    · obtain ⟨z1, z2, z3, z4⟩ := q2
      rw [if_pos ⟨z2, Or.inr z1, by omega, hc6 c z3 z4⟩, if_pos ⟨z1, z2, z3, z4⟩, hA c hc z3 z4, hT _ (by omega)]
    · rw [if_neg q2]
      by_cases q1 : d2 = d ∧ e2 = e ∧ 6 * f ≤ c ∧ c < 6 * f + 6
      · obtain ⟨z1, z2, z3, z4⟩ := q1
        rw [if_pos ⟨z2, Or.inl z1, by omega, hc6 c z3 z4⟩, if_pos ⟨z1, z2, z3, z4⟩, hA c hc z3 z4, hT _ (by omega)]
      · rw [if_neg q1, show jnX X d o e f (35, 0, 0, 0) (cl d2 e2 c) = _ from (key0 d2 e2 c he2 hc).1]
        refine if_iff ?_ _ _
        constructor
        · rintro ⟨z1, z2, z3, z4⟩
          refine ⟨z1, z2, ?_, z4⟩
          rcases z2 with z2 | z2
          · rcases Nat.lt_or_ge c (6 * f) with z | z
            · exact z
            · exact absurd ⟨z2, z1, z, by omega⟩ q1
          · rcases Nat.lt_or_ge c (6 * f) with z | z
            · exact z
            · exact absurd ⟨z2, z1, z, by omega⟩ q2
        · rintro ⟨z1, z2, z3, z4⟩
          exact ⟨z1, z2, by omega, z4⟩
  · rw [r37, JM_37, JM_37, st6_cl (by omega) (by omega) hf hc, st6_cl (by omega) (by omega) hf hc, show jnX X d o e (f + 1) (37, 0, 0, 0) (cl d2 e2 c) = _ from (key d2 e2 c he2 hc).2]
    by_cases q2 : d2 = o ∧ e2 = e ∧ 6 * f ≤ c ∧ c < 6 * f + 6
    · obtain ⟨z1, z2, z3, z4⟩ := q2
      rw [if_pos ⟨z2, Or.inr z1, by omega, hc6 c z3 z4⟩, if_pos ⟨z1, z2, z3, z4⟩, hM c hc z3 z4, hU _ (by omega)]
    · rw [if_neg q2]
      by_cases q1 : d2 = d ∧ e2 = e ∧ 6 * f ≤ c ∧ c < 6 * f + 6
      · obtain ⟨z1, z2, z3, z4⟩ := q1
        rw [if_pos ⟨z2, Or.inl z1, by omega, hc6 c z3 z4⟩, if_pos ⟨z1, z2, z3, z4⟩, hM c hc z3 z4, hS _ (by omega)]
      · rw [if_neg q1, show jnX X d o e f (37, 0, 0, 0) (cl d2 e2 c) = _ from (key0 d2 e2 c he2 hc).2]
        refine if_iff ?_ _ _
        constructor
        · rintro ⟨z1, z2, z3, z4⟩
          refine ⟨z1, z2, ?_, z4⟩
          rcases z2 with z2 | z2
          · rcases Nat.lt_or_ge c (6 * f) with z | z
            · exact z
            · exact absurd ⟨z2, z1, z, by omega⟩ q1
          · rcases Nat.lt_or_ge c (6 * f) with z | z
            · exact z
            · exact absurd ⟨z2, z1, z, by omega⟩ q2
        · rintro ⟨z1, z2, z3, z4⟩
          exact ⟨z1, z2, by omega, z4⟩
/-- what a field gains -/
theorem jf_gn {J : Mem} {d o e f : Nat} {A B S Z : Nat → Int32} (he : e < 10) (hf : f < 4) (hne : d ≠ o) (hA : ∀ k, k < 6 → J (35, 0, 0, 0) (24 * (10 * d + e) + 6 * f + k) = A k) (hB : ∀ k, k < 6 → J (35, 0, 0, 0) (24 * (10 * o + e) + 6 * f + k) = B k) (hS : ∀ k, k < 6 → J (37, 0, 0, 0) (24 * (10 * d + e) + 6 * f + k) = S k) (hZ : ∀ k, k < 6 → J (37, 0, 0, 0) (24 * (10 * o + e) + 6 * f + k) = Z k)
    (nA : ∀ k, k < 6 → 0 ≤ (A k).toInt) (nB : ∀ k, k < 6 → 0 ≤ (B k).toInt) (nS : ∀ k, k < 6 → 0 ≤ (S k).toInt) (nZ : ∀ k, k < 6 → 0 ≤ (Z k).toInt) : ∀ k, k ≤ 6 → jfM J d o e f k (30, 0, 0, 0) 3 = J (30, 0, 0, 0) 3 + nI (cntN (fun k => decide (0 < jnd A B S Z k) && !decide (jnd A B S Z k = A k)) k + cntN (fun k => decide (0 < jnd A B S Z k) && !decide (jnd A B S Z k = B k)) k)
  | 0, _ => (Int32.add_zero _).symm
  | k + 1, hk => by
    have ih := jf_gn he hf hne hA hB hS hZ nA nB nS nZ k (by omega)
    have p1 : 24 * (10 * d + e) + 6 * f + k = cl d e (6 * f + k) := by unfold cl; omega
    have p2 : 24 * (10 * o + e) + 6 * f + k = cl o e (6 * f + k) := by unfold cl; omega
    have hcc : 6 * f + k < 24 := by omega
    have n1 : ∀ x, ¬ inF d o e f k x e (6 * f + k) := fun x => by unfold inF; omega
    obtain ⟨a1, a2, a3⟩ := jf_rows (J := J) he hf hne k (by omega) d e (6 * f + k) he hcc
    obtain ⟨b1, b2, b3⟩ := jf_rows (J := J) he hf hne k (by omega) o e (6 * f + k) he hcc
    rw [if_neg (n1 _)] at a1 a2 a3 b1 b2 b3
    have hk6 : k < 6 := by omega
    rw [← p1, hA k hk6] at a1
    rw [← p2, hB k hk6] at b1
    rw [← p1, hS k hk6] at a3
    rw [← p2, hZ k hk6] at b3
    rw [jfM, mgs_rows.2.2.2, ud_eq]
    unfold mgsG mgsA
    rw [a1, b1, a3, b3, ih, mgA_jnd (nA k hk6) (nB k hk6) (nS k hk6) (nZ k hk6), mgX_frs, mgX_frs]
    show J (30, 0, 0, 0) 3 + nI _ + bI (decide (0 < jnd A B S Z k) && !decide (jnd A B S Z k = A k)) + bI (decide (0 < jnd A B S Z k) && !decide (jnd A B S Z k = B k)) = _
    have hb : ∀ v : Bool, bI v = nI (if v then 1 else 0) := fun v => by cases v <;> rfl
    rw [hb, hb, Int32.add_assoc, Int32.add_assoc, nI_add, nI_add, cntN, cntN]
    congr 2
    omega
theorem jn_gn {X : Mem} {d o e : Nat} (hB : BR X) (he : e < 2) (hne : d ≠ o) : ∀ f, f ≤ 4 → jnX X d o e f (30, 0, 0, 0) 3 = X (30, 0, 0, 0) 3 + nI (lgN X d o e f)
  | 0, _ => by
    show kboM X d o e (30, 0, 0, 0) 3 = _
    rw [kbo_see (by decide)]
    exact (Int32.add_zero _).symm
  | f + 1, hf => by
    have ih := jn_gn hB he hne f (by omega)
    show jnM (kboM X d o e) d o e (f + 1) (30, 0, 0, 0) 3 = _
    rw [jnM, kbo_shP, lgN]
    by_cases hs : shP X d o e f = true
    · rw [if_pos hs, if_pos hs]
      have j1 := fun k (hk : k < 6) => J_at (X := X) (d := d) (o := o) (e := e) (f := f) (k := k) (d2 := d) he hne (by omega) hk
      have j2 := fun k (hk : k < 6) => J_at (X := X) (d := d) (o := o) (e := e) (f := f) (k := k) (d2 := o) he hne (by omega) hk
      rw [jf_gn (J := jnX X d o e f) (A := rw6 (X (35, 0, 0, 0)) (24 * (10 * d + e) + 6 * f)) (B := rw6 (X (35, 0, 0, 0)) (24 * (10 * o + e) + 6 * f)) (S := rw6 (X (37, 0, 0, 0)) (24 * (10 * d + e) + 6 * f)) (Z := rw6 (X (37, 0, 0, 0)) (24 * (10 * o + e) + 6 * f)) (by omega) (by omega) hne (fun k hk => by have := (j1 k hk).1; rw [JM_35] at this; exact this) (fun k hk => by have := (j2 k hk).1; rw [JM_35] at this; exact this) (fun k hk => by have := (j1 k hk).2; rw [JM_37] at this; exact this) (fun k hk => by have := (j2 k hk).2; rw [JM_37] at this; exact this) (fun _ _ => (hB.1 _).1) (fun _ _ => (hB.1 _).1) (fun _ _ => (hB.2.1 _).1) (fun _ _ => (hB.2.1 _).1) 6 (Nat.le_refl 6), ih, Int32.add_assoc, nI_add]
      rfl
    · rw [if_neg hs, if_neg hs, Nat.add_zero]
      exact ih
theorem joi_gn {X : Mem} {d o e m : Nat} (hB : BR X) (he : e < 2) (hne : d ≠ o) : joiM X d o e m (30, 0, 0, 0) 3 = X (30, 0, 0, 0) 3 + nI (lgN X d o e 4) := by
  unfold joiM
  rw [jl_see (by decide)]
  exact jn_gn hB he hne 4 (Nat.le_refl 4)
/-! marks spread -/
def KM (X : Mem) (d o e j : Nat) : Mem := sset (JM X d o e 4) (42, 0, 0, 0) (jlM (jnX X d o e 4) d o e j (42, 0, 0, 0))
theorem jn4_42 {X : Mem} {d o e : Nat} : jnX X d o e 4 (42, 0, 0, 0) = X (42, 0, 0, 0) := (jn_see (by decide) (by decide) (by decide) (by decide) 4).trans (kbo_see (by decide))
theorem KM_0 (X : Mem) (d o e : Nat) : JM X d o e 4 = KM X d o e 0 := by
  unfold KM
  rw [show jlM (jnX X d o e 4) d o e 0 (42, 0, 0, 0) = JM X d o e 4 (42, 0, 0, 0) from jn4_42.trans ((JM_see (by decide) (by decide)).trans (LL_see (by decide))).symm, sset_id]
theorem KM_42 {X : Mem} {d o e j : Nat} : KM X d o e j (42, 0, 0, 0) = jlM (jnX X d o e 4) d o e j (42, 0, 0, 0) := sset_eq _ _ _
theorem KM_see {X : Mem} {d o e j : Nat} {k : KN} (h : k.1 ≠ 42) : KM X d o e j k = JM X d o e 4 k := sset_ne _ _ (fun q => h (by rw [q]))
theorem jn4_mo {X : Mem} {d o e e2 k : Nat} : mo (jnX X d o e 4) e2 k = mo X e2 k := by
  unfold mo
  rw [show jnX X d o e 4 (40, 0, 0, 0) = X (40, 0, 0, 0) from (jn_see (by decide) (by decide) (by decide) (by decide) 4).trans (kbo_see (by decide))]
theorem jn4_kmk {X : Mem} {d o e d2 k : Nat} : kmk (jnX X d o e 4) d2 k = kmk X d2 k := by
  unfold kmk
  rw [jn4_42]
theorem jn4_30 {X : Mem} {d o e : Nat} : jnX X d o e 4 (30, 0, 0, 0) 0 = X (30, 0, 0, 0) 0 := (jn_30 (by decide) 4).trans (by rw [kbo_see (by decide)])
theorem KM_at {X : Mem} {d o e j d2 : Nat} (hd : d < 6) (ho : o < 6) (hne : d ≠ o) (hd2 : d2 < 6) : KM X d o e j (42, 0, 0, 0) (6 * j + d2) = X (42, 0, 0, 0) (6 * j + d2) := by
  rw [KM_42, jl_42 hd ho hne j j d2 hd2, if_neg (fun z => Nat.lt_irrefl _ z.1), jn4_42]
/-- a device's month of a mark behind the spreading -/
def tvN (X : Mem) (d o e j d2 : Nat) : Int32 := if mo X e j = true ∧ (kmk X d j || kmk X o j) = true ∧ kmk X d2 j = false then X (30, 0, 0, 0) 0 + nI 1 else X (42, 0, 0, 0) (6 * j + d2)
theorem K_s {X : Mem} {d o e j : Nat} {v w : Int32} (hd : d < 6) (ho : o < 6) (hne : d ≠ o) (hv : v = tvN X d o e j d) (hw : w = tvN X d o e j o) : LAe (sset (sset (KM X d o e j) (42, 0, 0, 0) (upd (KM X d o e j (42, 0, 0, 0)) (6 * j + d) v)) (42, 0, 0, 0) (upd (sset (KM X d o e j) (42, 0, 0, 0) (upd (KM X d o e j (42, 0, 0, 0)) (6 * j + d) v) (42, 0, 0, 0)) (6 * j + o) w)) (KM X d o e (j + 1)) := by
  have hs : ∀ k : KN, k.1 ≠ 42 → KM X d o e (j + 1) k = sset (sset (KM X d o e j) (42, 0, 0, 0) (upd (KM X d o e j (42, 0, 0, 0)) (6 * j + d) v)) (42, 0, 0, 0) (upd (sset (KM X d o e j) (42, 0, 0, 0) (upd (KM X d o e j (42, 0, 0, 0)) (6 * j + d) v) (42, 0, 0, 0)) (6 * j + o) w) k := fun k h => by
    rw [sset_ne _ _ (fun q => h (by rw [q])), sset_ne _ _ (fun q => h (by rw [q])), KM_see h, KM_see h]
  refine ⟨fun k hk => hs k (by omega), fun d2 e2 c _ _ _ => by rw [hs _ (by decide)], fun d2 e2 c _ _ _ => by rw [hs _ (by decide)], fun d2 e2 c _ _ _ => by rw [hs _ (by decide)], fun x _ => by rw [hs _ (by decide)], fun x _ => by rw [hs _ (by decide)], fun x hx => ?_, fun x _ => by rw [hs _ (by decide)], fun x _ => by rw [hs _ (by decide)], fun x _ => by rw [hs _ (by decide)]⟩
  rw [sset_eq, sset_eq]
  obtain ⟨k, d2, hd2, rfl⟩ : ∃ k d2, d2 < 6 ∧ x = 6 * k + d2 := ⟨x / 6, x % 6, by omega, by omega⟩
  rw [KM_42, jl_42 hd ho hne (j + 1) k d2 hd2, jn4_mo, jn4_kmk, jn4_kmk, jn4_kmk, jn4_30, jn4_42]
  by_cases q2 : k = j ∧ d2 = o
  · obtain ⟨rfl, rfl⟩ := q2
    rw [ud_eq, hw]
    unfold tvN
    refine if_iff ?_ _ _
    constructor
    · rintro ⟨-, z1, z2, -, z3⟩; exact ⟨z1, z2, z3⟩
    · rintro ⟨z1, z2, z3⟩; exact ⟨Nat.lt_succ_self _, z1, z2, Or.inr rfl, z3⟩
  · rw [ud_ne _ _ (by omega)]
    by_cases q1 : k = j ∧ d2 = d
    · obtain ⟨rfl, rfl⟩ := q1
      rw [ud_eq, hv]
      unfold tvN
      refine if_iff ?_ _ _
      constructor
      · rintro ⟨-, z1, z2, -, z3⟩; exact ⟨z1, z2, z3⟩
      · rintro ⟨z1, z2, z3⟩; exact ⟨Nat.lt_succ_self _, z1, z2, Or.inl rfl, z3⟩
    · rw [ud_ne _ _ (by omega), KM_42, jl_42 hd ho hne j k d2 hd2, jn4_mo, jn4_kmk, jn4_kmk, jn4_kmk, jn4_30, jn4_42]
      refine if_iff ?_ _ _
      constructor
      · rintro ⟨z0, z1, z2, z3, z4⟩
        refine ⟨?_, z1, z2, z3, z4⟩
        rcases Nat.lt_or_ge k j with z | z
        · exact z
        · have e1 : k = j := by omega
          rcases z3 with z3 | z3
          · exact absurd ⟨e1, z3⟩ q1
          · exact absurd ⟨e1, z3⟩ q2
      · rintro ⟨z0, z1, z2, z3, z4⟩; exact ⟨by omega, z1, z2, z3, z4⟩
theorem or1 {a b : Nat} (ha : a < 2) (hb : b < 2) : nI (a + 2 * b) ||| nI 1 = nI (1 + 2 * b) := by
  rcases (show a = 0 ∨ a = 1 by omega) with rfl | rfl <;> rcases (show b = 0 ∨ b = 1 by omega) with rfl | rfl <;> decide
theorem joi_see {X : Mem} {d o e m : Nat} {k : KN} (h30 : k.1 ≠ 30) (h34 : k.1 ≠ 34) (h35 : k.1 ≠ 35) (h36 : k.1 ≠ 36) (h37 : k.1 ≠ 37) (h42 : k.1 ≠ 42) : joiM X d o e m k = X k := by
  unfold joiM
  rw [jl_see h42, jn_see h30 h35 h36 h37, kbo_see h34]
theorem joi_34 {X : Mem} {d o e m : Nat} : joiM X d o e m (34, 0, 0, 0) = upd (upd (X (34, 0, 0, 0)) (10 * d + e) (nI 1)) (10 * o + e) (nI 1) := by
  unfold joiM
  rw [jl_see (by decide), jn_see (by decide) (by decide) (by decide) (by decide)]
  exact sset_eq _ _ _
theorem joi_LAe {X : Mem} {d o e m : Nat} {ob kb : Nat} (hd : d < 6) (ho : o < 6) (he : e < 2) (hne : d ≠ o) (h1 : X (38, 0, 0, 0) (10 * d + e) = nI kb) (h2 : X (38, 0, 0, 0) (10 * o + e) = nI ob) : LAe (sset (sset (KM X d o e m) (43, 0, 0, 0) (upd (KM X d o e m (43, 0, 0, 0)) (2 * d + e) (nI (1 + 2 * kb)))) (43, 0, 0, 0) (upd (sset (KM X d o e m) (43, 0, 0, 0) (upd (KM X d o e m (43, 0, 0, 0)) (2 * d + e) (nI (1 + 2 * kb))) (43, 0, 0, 0)) (2 * o + e) (nI (1 + 2 * ob)))) (LL (joiM X d o e m)) := by
  have hs : ∀ k : KN, k.1 ≠ 43 → sset (sset (KM X d o e m) (43, 0, 0, 0) (upd (KM X d o e m (43, 0, 0, 0)) (2 * d + e) (nI (1 + 2 * kb)))) (43, 0, 0, 0) (upd (sset (KM X d o e m) (43, 0, 0, 0) (upd (KM X d o e m (43, 0, 0, 0)) (2 * d + e) (nI (1 + 2 * kb))) (43, 0, 0, 0)) (2 * o + e) (nI (1 + 2 * ob))) k = KM X d o e m k := fun k h => by
    rw [sset_ne _ _ (fun q => h (by rw [q])), sset_ne _ _ (fun q => h (by rw [q]))]
  have ho2 : ∀ k : KN, k.1 ≠ 42 → k.1 ≠ 35 → k.1 ≠ 37 → KM X d o e m k = LL X k := fun k a b c => by rw [KM_see a, JM_see b c]
  have hj : ∀ k : KN, k.1 = 35 ∨ k.1 = 37 → joiM X d o e m k = jnX X d o e 4 k := fun k hk => by
    unfold joiM
    exact jl_see (by omega) m
  have h30 : ∀ j, j ≠ 3 → joiM X d o e m (30, 0, 0, 0) j = X (30, 0, 0, 0) j := fun j hj => joi_30 hj
  refine ⟨fun k hk => ?_, fun d2 e2 c _ _ _ => ?_, fun d2 e2 c _ _ _ => ?_, fun d2 e2 c _ _ _ => ?_, fun x hx => ?_, fun x hx => ?_, fun x hx => ?_, fun x hx => ?_, fun x hx => ?_, fun x hx => ?_⟩
  · rw [hs k (by omega), ho2 k (by omega) (by omega) (by omega), LL_see (by omega), LL_see (by omega), joi_see (by omega) (by omega) (by omega) (by omega) (by omega) (by omega)]
  · rw [LL_see (by decide), hs _ (by decide), KM_see (by decide), JM_35, hj _ (Or.inl rfl)]
  · rw [LL_see (by decide), hs _ (by decide), KM_see (by decide), JM_37, hj _ (Or.inr rfl)]
  · rw [LL_see (by decide), hs _ (by decide), ho2 _ (by decide) (by decide) (by decide), LL_see (by decide), joi_see (by decide) (by decide) (by decide) (by decide) (by decide) (by decide)]
  · rw [LL_see (by decide), hs _ (by decide), ho2 _ (by decide) (by decide) (by decide), LL_see (by decide), joi_see (by decide) (by decide) (by decide) (by decide) (by decide) (by decide)]
  · rw [LL_see (by decide), hs _ (by decide), ho2 _ (by decide) (by decide) (by decide), LL_see (by decide), joi_see (by decide) (by decide) (by decide) (by decide) (by decide) (by decide)]
  · rw [LL_see (by decide), hs _ (by decide), KM_42]
    rfl
  · rw [sset_eq, sset_eq, ho2 _ (by decide) (by decide) (by decide), LL_43, LL_43]
    unfold kcode
    rw [joi_34, joi_see (by decide) (by decide) (by decide) (by decide) (by decide) (by decide)]
    by_cases q2 : x = 2 * o + e
    · subst q2
      rw [ud_eq, show 10 * ((2 * o + e) / 2) + (2 * o + e) % 2 = 10 * o + e by omega, ud_eq, h2, nI_mul, nI_add]
    · rw [ud_ne _ _ q2]
      by_cases q1 : x = 2 * d + e
      · subst q1
        rw [ud_eq, show 10 * ((2 * d + e) / 2) + (2 * d + e) % 2 = 10 * d + e by omega, ud_ne _ _ (by omega), ud_eq, h1, nI_mul, nI_add]
      · rw [ud_ne _ _ q1, ud_ne _ _ (by omega), ud_ne _ _ (by omega)]
  · rw [hs _ (by decide), ho2 _ (by decide) (by decide) (by decide), LL_44, LL_44]
    unfold wcode
    rw [joi_see (by decide) (by decide) (by decide) (by decide) (by decide) (by decide), joi_see (by decide) (by decide) (by decide) (by decide) (by decide) (by decide)]
  · rw [hs _ (by decide), ho2 _ (by decide) (by decide) (by decide), LL_45, LL_45]
    unfold gcode
    rw [joi_see (k := (31, 0, 0, 0)) (by decide) (by decide) (by decide) (by decide) (by decide) (by decide), h30 1 (by decide), h30 0 (by decide), h30 2 (by decide)]
