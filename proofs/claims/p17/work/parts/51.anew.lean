/-! the second books emptied -/
def zerM (I : Mem) : Mem := fun k => if k.2.1 = 1 ∧ (k.1 = 1 ∨ k.1 = 2 ∨ k.1 = 4 ∨ k.1 = 5 ∨ k.1 = 9 ∨ k.1 = 10 ∨ k.1 = 11 ∨ k.1 = 13 ∨ k.1 = 15) then fun _ => 0 else I k
theorem zer_ne {I : Mem} {k : KN} (h : ¬ (k.2.1 = 1 ∧ (k.1 = 1 ∨ k.1 = 2 ∨ k.1 = 4 ∨ k.1 = 5 ∨ k.1 = 9 ∨ k.1 = 10 ∨ k.1 = 11 ∨ k.1 = 13 ∨ k.1 = 15))) : zerM I k = I k := if_neg h
theorem zer_at {I : Mem} {k : KN} (h : k.2.1 = 1 ∧ (k.1 = 1 ∨ k.1 = 2 ∨ k.1 = 4 ∨ k.1 = 5 ∨ k.1 = 9 ∨ k.1 = 10 ∨ k.1 = 11 ∨ k.1 = 13 ∨ k.1 = 15)) : zerM I k = fun _ => 0 := if_pos h
theorem clear_off {I : Mem} {b e d : Nat} {k : KN} (h : k.2 ≠ (b, e, d)) : clearM I b e d k = I k := by
  unfold clearM
  rw [sset_ne _ _ (fun q => h (congrArg (·.2) q)), sset_ne _ _ (fun q => h (congrArg (·.2) q)), sset_ne _ _ (fun q => h (congrArg (·.2) q)), sset_ne _ _ (fun q => h (congrArg (·.2) q)), sset_ne _ _ (fun q => h (congrArg (·.2) q))]
theorem ecle_ent {I : Mem} {b e : Nat} {k : KN} (h : k.2.2.1 ≠ e ∨ k.2.1 ≠ b) : ∀ n, ecleM I b e n k = I k
  | 0 => by
    rw [ecleM, sset_ne _ _ (fun q => ?_), sset_ne _ _ (fun q => ?_)]
    · rw [q] at h; exact h.elim (fun z => z rfl) (fun z => z rfl)
    · rw [q] at h; exact h.elim (fun z => z rfl) (fun z => z rfl)
  | n + 1 => by
    rw [ecleM, clear_off (fun q => ?_), ecle_ent h n]
    rw [q] at h
    exact h.elim (fun z => z rfl) (fun z => z rfl)
theorem ecle_kind {I : Mem} {b e : Nat} {k : KN} (h : k.1 ≠ 4 ∧ k.1 ≠ 5 ∧ k.1 ≠ 9 ∧ k.1 ≠ 10 ∧ k.1 ≠ 11 ∧ k.1 ≠ 13 ∧ k.1 ≠ 15) : ∀ n, ecleM I b e n k = I k
  | 0 => by rw [ecleM, sset_ne _ _ (fun q => h.2.1 (congrArg (·.1) q)), sset_ne _ _ (fun q => h.1 (congrArg (·.1) q))]
  | n + 1 => by rw [ecleM, clear_see h.2.2.1 h.2.2.2.1 h.2.2.2.2.1 h.2.2.2.2.2.1 h.2.2.2.2.2.2, ecle_kind h n]
theorem ecle_4 {I : Mem} {b e : Nat} : ∀ n, ecleM I b e n (4, b, e, 0) = upd (upd (I (4, b, e, 0)) 0 0) 1 0
  | 0 => by rw [ecleM, sset_ne _ _ (nek (by decide)), sset_eq]
  | n + 1 => by rw [ecleM, clear_see (kz rfl) (kz rfl) (kz rfl) (kz rfl) (kz rfl), ecle_4 n]
theorem ecle_5 {I : Mem} {b e : Nat} : ∀ n, ecleM I b e n (5, b, e, 0) = fun _ => 0
  | 0 => by rw [ecleM, sset_eq]
  | n + 1 => by rw [ecleM, clear_see (kz rfl) (kz rfl) (kz rfl) (kz rfl) (kz rfl), ecle_5 n]
theorem ecle_cp {I : Mem} {b e d kk : Nat} {Z : (Nat → Int32) → Prop} (hz : ∀ J : Mem, Z (clearM J b e d (kk, b, e, d))) : ∀ n, d < n → Z (ecleM I b e n (kk, b, e, d))
  | n + 1, h => by
    by_cases q : d = n
    · subst q
      exact hz _
    · rw [ecleM, clear_off (fun z => q (congrArg (·.2.2) z))]
      exact ecle_cp hz n (by omega)
theorem bcr_1 {I : Mem} {b : Nat} {k : KN} (h : k.1 = 1 ∨ k.1 = 2) : ∀ n, bcrM I b n k = bcrM I b 0 k
  | 0 => rfl
  | n + 1 => by
    rw [show bcrM I b (n + 1) = ecleM (bcrM I b n) b n 6 from rfl, ecle_kind (by omega) 6, bcr_1 h n]
theorem bcr_off {I : Mem} {b : Nat} {k : KN} (h : k.2.1 ≠ b ∨ (k.1 ≠ 1 ∧ k.1 ≠ 2 ∧ k.1 ≠ 4 ∧ k.1 ≠ 5 ∧ k.1 ≠ 9 ∧ k.1 ≠ 10 ∧ k.1 ≠ 11 ∧ k.1 ≠ 13 ∧ k.1 ≠ 15)) : ∀ n, bcrM I b n k = I k
  | 0 => by
    rw [bcrM, sset_ne _ _ (fun q => ?_), sset_ne _ _ (fun q => ?_)]
    · rw [q] at h; exact h.elim (fun z => z rfl) (fun z => z.1 rfl)
    · rw [q] at h; exact h.elim (fun z => z rfl) (fun z => z.2.1 rfl)
  | n + 1 => by
    rw [show bcrM I b (n + 1) = ecleM (bcrM I b n) b n 6 from rfl]
    rcases h with h | h
    · rw [ecle_ent (Or.inr h) 6, bcr_off (Or.inl h) n]
    · rw [ecle_kind ⟨h.2.2.1, h.2.2.2.1, h.2.2.2.2.1, h.2.2.2.2.2.1, h.2.2.2.2.2.2.1, h.2.2.2.2.2.2.2.1, h.2.2.2.2.2.2.2.2⟩ 6, bcr_off (Or.inr h) n]
theorem bcr_ent {I : Mem} {b e kk d : Nat} {Z : (Nat → Int32) → Prop} (hk : kk ≠ 1 ∧ kk ≠ 2) (hz : ∀ J : Mem, Z (ecleM J b e 6 (kk, b, e, d))) : ∀ n, e < n → Z (bcrM I b n (kk, b, e, d))
  | n + 1, h => by
    rw [show bcrM I b (n + 1) = ecleM (bcrM I b n) b n 6 from rfl]
    by_cases q : e = n
    · subst q
      exact hz _
    · rw [ecle_ent (Or.inl q) 6]
      exact bcr_ent hk hz n (by omega)
/-- what is kept of the emptied books is empty -/
theorem bcr_lay {tc : TC} {dz : Nat} {ad : KN → Nat} {gm : GM} {Ks : List KN} {I : Mem} (hW : LW gm Ks) : ∀ k, k ∈ Ks → lay tc ad gm dz (bcrM I 1 10) k = lay tc ad gm dz (zerM I) k := by
  intro k hk
  have hw := hW k hk
  obtain ⟨n, b, e, d⟩ := k
  show cont tc ad gm dz (n, b, e, d) (bcrM I 1 10 (n, b, e, d)) = cont tc ad gm dz (n, b, e, d) (zerM I (n, b, e, d))
  by_cases hb : b = 1
  · subst hb
    by_cases h1 : n = 1
    · subst h1
      have hw2 : e = 0 ∧ d = 0 := hw.2
      obtain ⟨rfl, rfl⟩ := hw2
      rw [bcr_1 (Or.inl rfl), zer_at ⟨rfl, Or.inl rfl⟩, bcrM, sset_ne _ _ (nek (by decide)), sset_eq]
      rfl
    by_cases h2 : n = 2
    · subst h2
      have hw2 : e = 0 ∧ d = 0 := hw.2
      obtain ⟨rfl, rfl⟩ := hw2
      rw [bcr_1 (Or.inr rfl), zer_at ⟨rfl, by decide⟩, bcrM, sset_eq]
    by_cases h4 : n = 4
    · subst h4
      have hw2 : e < 10 ∧ d = 0 := hw.2
      obtain ⟨he, rfl⟩ := hw2
      rw [zer_at ⟨rfl, by simp⟩]
      exact bcr_ent (Z := fun r => cont tc ad gm dz (4, 1, e, 0) r = cont tc ad gm dz (4, 1, e, 0) (fun _ => 0)) (by decide) (fun J => by rw [ecle_4 6]; rfl) 10 he
    by_cases h5 : n = 5
    · subst h5
      have hw2 : e < 10 ∧ d = 0 := hw.2
      obtain ⟨he, rfl⟩ := hw2
      rw [zer_at ⟨rfl, by simp⟩]
      exact bcr_ent (Z := fun r => cont tc ad gm dz (5, 1, e, 0) r = cont tc ad gm dz (5, 1, e, 0) (fun _ => 0)) (by decide) (fun J => by rw [ecle_5 6]) 10 he
    by_cases h9 : n = 9
    · subst h9
      have hw2 : e < 10 ∧ d < 6 := hw.2
      rw [zer_at ⟨rfl, by simp⟩]
      refine bcr_ent (Z := fun r => cont tc ad gm dz (9, 1, e, d) r = cont tc ad gm dz (9, 1, e, d) (fun _ => 0)) (by decide) (fun J => ecle_cp (Z := fun r => cont tc ad gm dz (9, 1, e, d) r = cont tc ad gm dz (9, 1, e, d) (fun _ => 0)) (fun J => ?_) 6 hw2.2) 10 hw2.1
      unfold clearM
      rw [sset_ne _ _ (nek (by decide)), sset_ne _ _ (nek (by decide)), sset_ne _ _ (nek (by decide)), sset_ne _ _ (nek (by decide)), sset_eq]
      rfl
    by_cases h10 : n = 10
    · subst h10
      have hw2 : e < 10 ∧ d < 6 := hw.2
      rw [zer_at ⟨rfl, by simp⟩]
      refine bcr_ent (Z := fun r => cont tc ad gm dz (10, 1, e, d) r = cont tc ad gm dz (10, 1, e, d) (fun _ => 0)) (by decide) (fun J => ecle_cp (Z := fun r => cont tc ad gm dz (10, 1, e, d) r = cont tc ad gm dz (10, 1, e, d) (fun _ => 0)) (fun J => ?_) 6 hw2.2) 10 hw2.1
      unfold clearM
      rw [sset_ne _ _ (nek (by decide)), sset_ne _ _ (nek (by decide)), sset_ne _ _ (nek (by decide)), sset_eq]
    by_cases h11 : n = 11
    · subst h11
      have hw2 : e < 10 ∧ d < 6 := hw.2
      rw [zer_at ⟨rfl, by simp⟩]
      refine bcr_ent (Z := fun r => cont tc ad gm dz (11, 1, e, d) r = cont tc ad gm dz (11, 1, e, d) (fun _ => 0)) (by decide) (fun J => ecle_cp (Z := fun r => cont tc ad gm dz (11, 1, e, d) r = cont tc ad gm dz (11, 1, e, d) (fun _ => 0)) (fun J => ?_) 6 hw2.2) 10 hw2.1
      unfold clearM
      rw [sset_ne _ _ (nek (by decide)), sset_ne _ _ (nek (by decide)), sset_eq]
    by_cases h13 : n = 13
    · subst h13
      have hw2 : e < 10 ∧ d < 6 := hw.2
      rw [zer_at ⟨rfl, by simp⟩]
      refine bcr_ent (Z := fun r => cont tc ad gm dz (13, 1, e, d) r = cont tc ad gm dz (13, 1, e, d) (fun _ => 0)) (by decide) (fun J => ecle_cp (Z := fun r => cont tc ad gm dz (13, 1, e, d) r = cont tc ad gm dz (13, 1, e, d) (fun _ => 0)) (fun J => ?_) 6 hw2.2) 10 hw2.1
      unfold clearM
      rw [sset_ne _ _ (nek (by decide)), sset_eq]
    by_cases h15 : n = 15
    · subst h15
      have hw2 : e < 10 ∧ d < 6 := hw.2
      rw [zer_at ⟨rfl, by simp⟩]
      refine bcr_ent (Z := fun r => cont tc ad gm dz (15, 1, e, d) r = cont tc ad gm dz (15, 1, e, d) (fun _ => 0)) (by decide) (fun J => ecle_cp (Z := fun r => cont tc ad gm dz (15, 1, e, d) r = cont tc ad gm dz (15, 1, e, d) (fun _ => 0)) (fun J => ?_) 6 hw2.2) 10 hw2.1
      unfold clearM
      rw [sset_eq]
    rw [bcr_off (Or.inr ⟨h1, h2, h4, h5, h9, h10, h11, h13, h15⟩), zer_ne (fun z => by have := z.2; simp only at this; omega)]
  · rw [bcr_off (Or.inl hb), zer_ne (fun z => hb z.1)]
theorem zer_SB (I : Mem) : SB 1 0 (fun _ => 0) (zerM I) (zerM I) (fun _ _ => 0) := by
  refine ⟨fun k e d hk => ?_, fun _ _ => rfl⟩
  rcases hk with q | q
  · exact zer_at ⟨rfl, q⟩
  · exact absurd q.2 (Nat.not_lt_zero _)
theorem zer_RS {V : Nat → BS} {acts : Nat → Act} {z : Nat} {I : Mem} {gm : GM} {ad : KN → Nat} {Ks : List KN} (hR : Runs V acts z) (hL : LV gm Ks) (hW : LW gm Ks) (hG2 : GM2 gm) : RS V (zerM I) gm ad Ks 0 ad Ks gm (zerM I) := by
  refine ⟨?_, hG2, fun _ _ _ => rfl, ?_, hL, hW, fun _ _ _ => rfl⟩
  · rw [hR.1]; exact zer_SB I
  · rw [hR.1]; exact fun e => (Nat.max_eq_left (Nat.zero_le _)).symm
/-- the journal tells the acts -/
def JR (I : Mem) (acts : Nat → Act) (z : Nat) : Prop := I (20, 0, 0, 0) 0 = nI z ∧ ∀ j, j < z → I (21, 0, 0, 0) j = nI (acts j).1 ∧ I (22, 0, 0, 0) j = (acts j).2.1 ∧ I (23, 0, 0, 0) j = (acts j).2.2.1 ∧ I (24, 0, 0, 0) j = (acts j).2.2.2.1 ∧ I (25, 0, 0, 0) j = (acts j).2.2.2.2
theorem zer_JR {I : Mem} {acts : Nat → Act} {z : Nat} (h : JR I acts z) : JR (zerM I) acts z := by
  unfold JR
  rw [zer_ne (by simp), zer_ne (by simp), zer_ne (by simp), zer_ne (by simp), zer_ne (by simp), zer_ne (by simp)]
  exact h
abbrev NAw (tc : TC) (dz : Nat) (V : Nat → BS) (I : Mem) (gm : GM) (ad : KN → Nat) (Ks : List KN) (z : Nat) (u : WS) : Prop := ∃ gm1 I1, RS V (zerM I) gm ad Ks z u.1 u.2.1 gm1 I1 ∧ ∀ k, k ∈ u.2.1 → u.2.2 k = lay tc u.1 gm1 dz I1 k
/-- both books tell the same -/
theorem two_books {mcs : Nat → Nat} {I I0 I1 J J0 : Mem} (h1 : SB 1 0 mcs I0 I1 J) (h0 : SB 0 0 mcs J0 I J) (k e d : Nat) (hk : (k = 1 ∨ k = 2 ∨ k = 4 ∨ k = 5 ∨ k = 9 ∨ k = 10 ∨ k = 11 ∨ k = 13 ∨ k = 15)) : I1 (k, 1, e, d) = I (k, 0, e, d) := (h1.at k e d hk).trans (h0.at k e d hk).symm
/-! throws over worlds that grow -/
abbrev xXG (E : String) (D : va_G) (ad : KN → Nat) (Ks : List KN) (sz : Nat) (P : WS → Prop) : String → State → State → Prop := vx_X P (fun E' u t => E' = E ∧ wsB D ad Ks sz u t) (wA ad Ks sz)
def GX (l : Launch) (y : MethodName) (cc : ByteArray) (maxL : Nat) (ret : Option FieldType) (lv mc ms : Nat) (D : va_G) (tc : TC) (dz : Nat) (ad : KN → Nat) (Ks : List KN) (st : KN → va_E) (av : List Value) (E : String) (P : WS → Prop) : Prop :=
  ∀ sz : Nat, vx_Met l y (wsA y cc maxL ret) (rmL lv mc ms) (va_Pc av (PreW D tc dz ad Ks st sz)) qN (xXG E D ad Ks sz P) mc ms (wA ad Ks sz)
section GXOUT
variable {p : Program} {l : Launch} {e : Env} {R : Room} {s : State} {m : MethodId} {args : Array Value} {below : List Frame} {meth : Method} {c : Code} {H : Heap} {locs : List Loc} {cells slots : Nat} {Q : State → Prop}
variable {cc : ByteArray} {own : String} {nL : Nat} {D : va_G} {tc : TC} {dz : Nat} {ad ad0 : KN → Nat} {Ks Ks0 : List KN} {st : KN → va_E} {pc : Nat} {ls : Array Slot} {rest : List Value} {Qc : Array Value → State → Outcome → State → Prop}
theorem g_xout (X : Cx p s m args meth c cc own nL D tc dz (wA ad0 Ks0 s.heap.size)) (h : Sx D (wA ad0 Ks0 s.heap.size) ad Ks st s H locs) {E : String} {ce : Cell} {q : Addr} (htab : ∀ x ∈ c.exceptionTable.toList, False) (hcell : H[q]? = some ce) (hv : ce.vm = .none) (hcl : s.vm.findClass E = some ce.cls) {P : WS → Prop} (hP : P (ad, Ks, st)) {mc ms : Nat} (hc : cells ≤ mc) (hs : slots ≤ ms) :
    vx_W p l e R s m args below meth c H locs cells slots (vx_MQ below Qc (xXG E D ad0 Ks0 s.heap.size P) args s mc ms (wA ad0 Ks0 s.heap.size)) (F0 m pc ls rest) q := by
  exact vx_out (fun x hx9 => (htab x hx9).elim) X.2.1 hcell hv hcl (fun t ht hvm => ⟨(ad, Ks, st), hP, ⟨rfl, h.1.onto ht, h.2.1⟩, h.2.2.F ht⟩) h.2.2.2.2 hc hs
end GXOUT
