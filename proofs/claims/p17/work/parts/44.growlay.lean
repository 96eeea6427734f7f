theorem cont_oth {tc : TC} {dz : Nat} {ad ad1 : KN → Nat} {gm gm1 : GM} : ∀ (k : KN) (f : Nat → Int32), k.1 ≠ 7 → k.1 ≠ 8 → (∀ k2, refP k k2 → ad1 k2 = ad k2) → cont tc ad1 gm1 dz k f = cont tc ad gm dz k f
  | (0, b, e, d), _, _, _, h => by
    have h0 : ad1 (1, 0, 0, 0) = ad (1, 0, 0, 0) := h _ (Or.inl rfl)
    have h1 : ad1 (1, 1, 0, 0) = ad (1, 1, 0, 0) := h _ (Or.inr (Or.inl rfl))
    have h2 : ad1 (20, 0, 0, 0) = ad (20, 0, 0, 0) := h _ (Or.inr (Or.inr (rfl)))
    simp only [cont, h0, h1, h2]
  | (1, b, e, d), _, _, _, h => by
    have h0 : ad1 (2, b, 0, 0) = ad (2, b, 0, 0) := h _ (Or.inl rfl)
    have h1 : ad1 (3, b, 0, 0) = ad (3, b, 0, 0) := h _ (Or.inr (rfl))
    simp only [cont, h0, h1]
  | (2, b, e, d), _, _, _, _ => rfl
  | (3, b, e, d), _, _, _, h => by
    have q : (fun e : Nat => some (ad1 (4, b, e, 0))) = fun e => some (ad (4, b, e, 0)) := funext fun e => congrArg some (h _ ⟨e, rfl⟩)
    exact congrArg (fun f => (Sum.inl (tc 4, 10, .inr (.inr (.inr (.inr f)))) : va_E)) q
  | (4, b, e, d), _, _, _, h => by
    have h0 : ad1 (5, b, e, 0) = ad (5, b, e, 0) := h _ (Or.inl rfl)
    have h1 : ad1 (6, b, e, 0) = ad (6, b, e, 0) := h _ (Or.inr (Or.inl rfl))
    have h2 : ad1 (7, b, e, 0) = ad (7, b, e, 0) := h _ (Or.inr (Or.inr (rfl)))
    simp only [cont, h0, h1, h2]
  | (5, b, e, d), _, _, _, _ => rfl
  | (6, b, e, d), _, _, _, h => by
    have q : (fun d : Nat => some (ad1 (9, b, e, d))) = fun d => some (ad (9, b, e, d)) := funext fun d => congrArg some (h _ ⟨d, rfl⟩)
    exact congrArg (fun f => (Sum.inl (tc 5, 6, .inr (.inr (.inr (.inr f)))) : va_E)) q
  | (7, b, e, d), _, h7, _, _ => absurd rfl h7
  | (8, b, e, d), _, _, h8, _ => absurd rfl h8
  | (9, b, e, d), _, _, _, h => by
    have h0 : ad1 (10, b, e, d) = ad (10, b, e, d) := h _ (Or.inl rfl)
    have h1 : ad1 (11, b, e, d) = ad (11, b, e, d) := h _ (Or.inr (Or.inl rfl))
    have h2 : ad1 (12, b, e, d) = ad (12, b, e, d) := h _ (Or.inr (Or.inr (Or.inl rfl)))
    have h3 : ad1 (14, b, e, d) = ad (14, b, e, d) := h _ (Or.inr (Or.inr (Or.inr (rfl))))
    simp only [cont, h0, h1, h2, h3]
  | (10, b, e, d), _, _, _, _ => rfl
  | (11, b, e, d), _, _, _, _ => rfl
  | (12, b, e, d), _, _, _, h => by
    have h0 : ad1 (13, b, e, d) = ad (13, b, e, d) := h _ rfl
    simp only [cont, h0]
  | (13, b, e, d), _, _, _, _ => rfl
  | (14, b, e, d), _, _, _, h => by
    have h0 : ad1 (15, b, e, d) = ad (15, b, e, d) := h _ rfl
    simp only [cont, h0]
  | (15, b, e, d), _, _, _, _ => rfl
  | (16, b, e, d), _, _, _, h => by
    have h0 : ad1 (17, b, e, d) = ad (17, b, e, d) := h _ (Or.inl rfl)
    have h1 : ad1 (19, b, e, d) = ad (19, b, e, d) := h _ (Or.inr (rfl))
    simp only [cont, h0, h1]
  | (17, b, e, d), _, _, _, h => by
    have h0 : ad1 (18, b, e, d) = ad (18, b, e, d) := h _ rfl
    simp only [cont, h0]
  | (18, b, e, d), _, _, _, _ => rfl
  | (19, b, e, d), _, _, _, _ => rfl
  | (20, b, e, d), _, _, _, h => by
    have h0 : ad1 (21, 0, 0, 0) = ad (21, 0, 0, 0) := h _ (Or.inl rfl)
    have h1 : ad1 (22, 0, 0, 0) = ad (22, 0, 0, 0) := h _ (Or.inr (Or.inl rfl))
    have h2 : ad1 (23, 0, 0, 0) = ad (23, 0, 0, 0) := h _ (Or.inr (Or.inr (Or.inl rfl)))
    have h3 : ad1 (24, 0, 0, 0) = ad (24, 0, 0, 0) := h _ (Or.inr (Or.inr (Or.inr (Or.inl rfl))))
    have h4 : ad1 (25, 0, 0, 0) = ad (25, 0, 0, 0) := h _ (Or.inr (Or.inr (Or.inr (Or.inr (rfl)))))
    simp only [cont, h0, h1, h2, h3, h4]
  | (21, b, e, d), _, _, _, _ => rfl
  | (22, b, e, d), _, _, _, _ => rfl
  | (23, b, e, d), _, _, _, _ => rfl
  | (24, b, e, d), _, _, _, _ => rfl
  | (25, b, e, d), _, _, _, _ => rfl
  | (26, b, e, d), _, _, _, _ => rfl
  | (27, b, e, d), _, _, _, _ => rfl
  | (28, b, e, d), _, _, _, _ => rfl
  | (29, b, e, d), _, _, _, _ => rfl
  | (30, b, e, d), _, _, _, _ => rfl
  | (31, b, e, d), _, _, _, _ => rfl
  | (32, b, e, d), _, _, _, _ => rfl
  | (33, b, e, d), _, _, _, _ => rfl
  | (34, b, e, d), _, _, _, _ => rfl
  | (35, b, e, d), _, _, _, _ => rfl
  | (36, b, e, d), _, _, _, _ => rfl
  | (37, b, e, d), _, _, _, _ => rfl
  | (38, b, e, d), _, _, _, _ => rfl
  | (39, b, e, d), _, _, _, _ => rfl
  | (40, b, e, d), _, _, _, _ => rfl
  | (41, b, e, d), _, _, _, _ => rfl
  | (42, b, e, d), _, _, _, _ => rfl
  | (43, b, e, d), _, _, _, _ => rfl
  | (44, b, e, d), _, _, _, _ => rfl
  | (45, b, e, d), _, _, _, _ => rfl
  | (46, b, e, d), _, _, _, _ => rfl
  | (47, b, e, d), _, _, _, _ => rfl
  | (48, b, e, d), _, _, _, _ => rfl
  | (49, b, e, d), _, _, _, _ => rfl
  | (50, b, e, d), _, _, _, _ => rfl
  | (51, b, e, d), _, _, _, _ => rfl
  | (n + 52, b, e, d), _, _, _, _ => rfl
theorem lvS_oth {gm gm1 : GM} : ∀ (k : KN), k.1 ≠ 8 → k.1 ≠ 16 → k.1 ≠ 17 → k.1 ≠ 18 → k.1 ≠ 19 → (lvS gm k ↔ lvS gm1 k)
  | (0, b, e, d), _, _, _, _, _ => Iff.rfl
  | (1, b, e, d), _, _, _, _, _ => Iff.rfl
  | (2, b, e, d), _, _, _, _, _ => Iff.rfl
  | (3, b, e, d), _, _, _, _, _ => Iff.rfl
  | (4, b, e, d), _, _, _, _, _ => Iff.rfl
  | (5, b, e, d), _, _, _, _, _ => Iff.rfl
  | (6, b, e, d), _, _, _, _, _ => Iff.rfl
  | (7, b, e, d), _, _, _, _, _ => Iff.rfl
  | (8, b, e, d), h, _, _, _, _ => absurd rfl h
  | (9, b, e, d), _, _, _, _, _ => Iff.rfl
  | (10, b, e, d), _, _, _, _, _ => Iff.rfl
  | (11, b, e, d), _, _, _, _, _ => Iff.rfl
  | (12, b, e, d), _, _, _, _, _ => Iff.rfl
  | (13, b, e, d), _, _, _, _, _ => Iff.rfl
  | (14, b, e, d), _, _, _, _, _ => Iff.rfl
  | (15, b, e, d), _, _, _, _, _ => Iff.rfl
  | (16, b, e, d), _, h, _, _, _ => absurd rfl h
  | (17, b, e, d), _, _, h, _, _ => absurd rfl h
  | (18, b, e, d), _, _, _, h, _ => absurd rfl h
  | (19, b, e, d), _, _, _, _, h => absurd rfl h
  | (n + 20, b, e, d), _, _, _, _, _ => Iff.rfl
def LW (gm : GM) (Ks : List KN) : Prop := ∀ k, k ∈ Ks → lvS gm k
def GM2 (gm : GM) : Prop := ∀ b e, (gm b e).1 ≤ (gm b e).2 ∧ (gm b e).2 ≤ 2 * (gm b e).1 + 10 ∧ (gm b e).1 ≤ 600
theorem GM2.ok {gm : GM} (h : GM2 gm) : GMok gm := fun b e => by have := h b e; omega
def gset (gm : GM) (b e : Nat) (v : Nat × Nat) : GM := fun b2 e2 => if b2 = b ∧ e2 = e then v else gm b2 e2
theorem gset_eq (gm : GM) (b e : Nat) (v : Nat × Nat) : gset gm b e v b e = v := if_pos ⟨rfl, rfl⟩
theorem gset_ne (gm : GM) {b e b2 e2 : Nat} (v : Nat × Nat) (h : ¬ (b2 = b ∧ e2 = e)) : gset gm b e v b2 e2 = gm b2 e2 := if_neg h
/-- a mark added -/
def addM (I : Mem) (b e d mc : Nat) (month : Int32) : Mem := sset (markM I b e mc d month) (4, b, e, 0) (upd (I (4, b, e, 0)) 1 (nI (mc + 1)))
/-- the world of the layout, over an older one -/
def NWs (tc : TC) (dz : Nat) (gm1 : GM) (I1 : Mem) (ad : KN → Nat) (Ks : List KN) (u : WS) : Prop := (∀ k, k ∈ u.2.1 → u.2.2 k = lay tc u.1 gm1 dz I1 k) ∧ LV gm1 u.2.1 ∧ LW gm1 u.2.1 ∧ ∀ k, k ∈ Ks → k.1 ≠ 8 → u.1 k = ad k
/-- behind a mark: how many objects the list of the entry has now -/
def GrP (tc : TC) (dz : Nat) (gm : GM) (b e n : Nat) (I1 : Mem) (ad : KN → Nat) (Ks : List KN) (u : WS) : Prop := ∃ (gm1 : GM) (v7 : Nat → Int32), (∀ b2 e2, ¬ (b2 = b ∧ e2 = e) → gm1 b2 e2 = gm b2 e2) ∧ (gm1 b e).1 = n ∧ GM2 gm1 ∧ NWs tc dz gm1 (sset I1 (7, b, e, 0) v7) ad Ks u
/-- the list's world told by the layout -/
theorem grow_lay {tc : TC} {dz : Nat} {gm : GM} {I : Mem} {b e c2 : Nat} {ad ad1 : KN → Nat} {Ks Ks1 : List KN} {st1 : KN → va_E} {v : Int32} (hL : LV gm Ks) (hW : LW gm Ks) (hb2 : b < 2) (he : e < 10) (hc2 : (gm b e).1 + 1 ≤ c2)
    (hn : ∀ k, k ≠ (8, b, e, 0) → k ≠ (16, b, e, (gm b e).1) → k ≠ (17, b, e, (gm b e).1) → k ≠ (18, b, e, (gm b e).1) → k ≠ (19, b, e, (gm b e).1) → ad1 k = ad k)
    (hKi : ∀ k, k ∈ Ks1 ↔ (k = (8, b, e, 0) ∨ k = (16, b, e, (gm b e).1) ∨ k = (17, b, e, (gm b e).1) ∨ k = (18, b, e, (gm b e).1) ∨ k = (19, b, e, (gm b e).1) ∨ k ∈ Ks))
    (hso : ∀ k, k ∈ Ks → k ≠ (7, b, e, 0) → k ≠ (8, b, e, 0) → st1 k = lay tc ad gm dz I k)
    (h16 : st1 (16, b, e, (gm b e).1) = .inr (5, [.ref (ad1 (17, b, e, (gm b e).1)), .ref (ad1 (19, b, e, (gm b e).1))])) (h17 : st1 (17, b, e, (gm b e).1) = .inr (6, [.ref (ad1 (18, b, e, (gm b e).1))])) (h18 : st1 (18, b, e, (gm b e).1) = .inl (tc 0, 24, .inl (fun _ => 0))) (h19 : st1 (19, b, e, (gm b e).1) = .inl (tc 0, 6, .inl (fun _ => 0)))
    (h7 : st1 (7, b, e, 0) = .inr (0, [.int v, .ref (ad1 (8, b, e, 0)), .int (nI ((gm b e).1 + 1))])) (h8 : st1 (8, b, e, 0) = .inl (tc 6, c2, .inr (.inr (.inr (.inr (FJ ad1 b e ((gm b e).1 + 1))))))) :
    (∀ k, k ∈ Ks1 → st1 k = lay tc ad1 (gset gm b e ((gm b e).1 + 1, c2)) dz (sset (sset (sset I (18, b, e, (gm b e).1) (fun _ => 0)) (19, b, e, (gm b e).1) (fun _ => 0)) (7, b, e, 0) (upd (I (7, b, e, 0)) 0 v)) k) ∧ LV (gset gm b e ((gm b e).1 + 1, c2)) Ks1 ∧ LW (gset gm b e ((gm b e).1 + 1, c2)) Ks1 := by
  have g0 := gset_eq gm b e ((gm b e).1 + 1, c2)
  have m7 : (7, b, e, 0) ∈ Ks := hL _ ⟨hb2, he, rfl⟩
  refine ⟨fun k hk => ?_, fun k hk => ?_, fun k hk => ?_⟩
  · by_cases e7 : k = (7, b, e, 0)
    · subst e7
      rw [h7]
      show _ = Sum.inr (0, [Value.int ((sset _ (7, b, e, 0) (upd (I (7, b, e, 0)) 0 v)) (7, b, e, 0) 0), Value.ref (if (gset gm b e ((gm b e).1 + 1, c2) b e).2 = 0 then dz else ad1 (8, b, e, 0)), Value.int (nI (gset gm b e ((gm b e).1 + 1, c2) b e).1)])
      rw [g0, sset_eq, if_neg (by show ¬ c2 = 0; omega)]
      rfl
    · by_cases e8 : k = (8, b, e, 0)
      · subst e8
        rw [h8]
        show _ = (Sum.inl (tc 6, (gset gm b e ((gm b e).1 + 1, c2) b e).2, .inr (.inr (.inr (.inr (fun j => if j < (gset gm b e ((gm b e).1 + 1, c2) b e).1 then some (ad1 (16, b, e, j)) else none))))) : va_E)
        rw [g0]
        rfl
      · by_cases e18 : k = (18, b, e, (gm b e).1)
        · subst e18
          rw [h18]
          show _ = (Sum.inl (tc 0, 24, .inl (sset (sset (sset I (18, b, e, (gm b e).1) (fun _ => 0)) (19, b, e, (gm b e).1) (fun _ => 0)) (7, b, e, 0) (upd (I (7, b, e, 0)) 0 v) (18, b, e, (gm b e).1))) : va_E)
          rw [sset_ne _ _ (nek (by decide)), sset_ne _ _ (nek (by decide)), sset_eq]
        · by_cases e19 : k = (19, b, e, (gm b e).1)
          · subst e19
            rw [h19]
            show _ = (Sum.inl (tc 0, 6, .inl (sset (sset (sset I (18, b, e, (gm b e).1) (fun _ => 0)) (19, b, e, (gm b e).1) (fun _ => 0)) (7, b, e, 0) (upd (I (7, b, e, 0)) 0 v) (19, b, e, (gm b e).1))) : va_E)
            rw [sset_ne _ _ (nek (by decide)), sset_eq]
          · have hI : (sset (sset (sset I (18, b, e, (gm b e).1) (fun _ => 0)) (19, b, e, (gm b e).1) (fun _ => 0)) (7, b, e, 0) (upd (I (7, b, e, 0)) 0 v)) k = I k := by
              rw [sset_ne _ _ e7, sset_ne _ _ e19, sset_ne _ _ e18]
            show st1 k = cont tc ad1 _ dz k ((sset (sset (sset I (18, b, e, (gm b e).1) (fun _ => 0)) (19, b, e, (gm b e).1) (fun _ => 0)) (7, b, e, 0) (upd (I (7, b, e, 0)) 0 v)) k)
            rw [hI]
            by_cases e16 : k = (16, b, e, (gm b e).1)
            · subst e16
              exact h16
            · by_cases e17 : k = (17, b, e, (gm b e).1)
              · subst e17
                exact h17
              · have hkK : k ∈ Ks := by
                  rcases (hKi k).mp hk with q | q | q | q | q | q
                  · exact absurd q e8
                  · exact absurd q e16
                  · exact absurd q e17
                  · exact absurd q e18
                  · exact absurd q e19
                  · exact q
                rw [hso k hkK e7 e8]
                show cont tc ad gm dz k (I k) = _
                have hlv := hW k hkK
                obtain ⟨n2, b2, e2, d2⟩ := k
                by_cases k7 : n2 = 7
                · subst k7
                  have hd : d2 = 0 := hlv.2.2
                  subst hd
                  have hne : ¬ (b2 = b ∧ e2 = e) := fun q => e7 (by rw [q.1, q.2])
                  show Sum.inr (0, [Value.int (I (7, b2, e2, 0) 0), Value.ref (if (gm b2 e2).2 = 0 then dz else ad (8, b2, e2, 0)), Value.int (nI (gm b2 e2).1)]) = Sum.inr (0, [Value.int (I (7, b2, e2, 0) 0), Value.ref (if (gset gm b e ((gm b e).1 + 1, c2) b2 e2).2 = 0 then dz else ad1 (8, b2, e2, 0)), Value.int (nI (gset gm b e ((gm b e).1 + 1, c2) b2 e2).1)])
                  rw [gset_ne _ _ hne, hn (8, b2, e2, 0) (fun q => hne (by simp only [Prod.mk.injEq] at q; exact ⟨q.2.1, q.2.2.1⟩)) (nek (by decide)) (nek (by decide)) (nek (by decide)) (nek (by decide))]
                · by_cases k8 : n2 = 8
                  · subst k8
                    have hd : d2 = 0 := hlv.2.2.1
                    subst hd
                    have hne : ¬ (b2 = b ∧ e2 = e) := fun q => e8 (by rw [q.1, q.2])
                    have q : (fun j : Nat => if j < (gm b2 e2).1 then some (ad (16, b2, e2, j)) else none) = fun j => if j < (gm b2 e2).1 then some (ad1 (16, b2, e2, j)) else none := by
                      funext j
                      rw [hn (16, b2, e2, j) (nek (by decide)) (fun q => hne (by simp only [Prod.mk.injEq] at q; exact ⟨q.2.1, q.2.2.1⟩)) (nek (by decide)) (nek (by decide)) (nek (by decide))]
                    show (Sum.inl (tc 6, (gm b2 e2).2, .inr (.inr (.inr (.inr (fun j => if j < (gm b2 e2).1 then some (ad (16, b2, e2, j)) else none))))) : va_E) = Sum.inl (tc 6, (gset gm b e ((gm b e).1 + 1, c2) b2 e2).2, .inr (.inr (.inr (.inr (fun j => if j < (gset gm b e ((gm b e).1 + 1, c2) b2 e2).1 then some (ad1 (16, b2, e2, j)) else none)))))
                    rw [gset_ne _ _ hne, q]
                  · refine (cont_oth (n2, b2, e2, d2) _ k7 k8 (fun k3 hr => ?_)).symm
                    have hj : n2 = 16 ∨ n2 = 17 → ¬ (b2 = b ∧ e2 = e ∧ d2 = (gm b e).1) := by
                      rintro (q | q) z
                      · exact e16 (by rw [q, z.1, z.2.1, z.2.2])
                      · exact e17 (by rw [q, z.1, z.2.1, z.2.2])
                    obtain ⟨n3, b3, e3, d3⟩ := k3
                    have key : n3 ≠ 8 ∧ n3 ≠ 16 ∧ ((n3 = 17 ∨ n3 = 18 ∨ n3 = 19) → ¬ (b3 = b ∧ e3 = e ∧ d3 = (gm b e).1)) := by
                      unfold refP at hr
                      split at hr <;> simp only [Prod.mk.injEq] at * <;> first | omega | (obtain ⟨z, hr⟩ := hr; omega) | exact hr.elim
                    exact hn _ (fun q => key.1 (by simp only [Prod.mk.injEq] at q; exact q.1)) (fun q => key.2.1 (by simp only [Prod.mk.injEq] at q; exact q.1)) (fun q => by simp only [Prod.mk.injEq] at q; exact key.2.2 (Or.inl q.1) q.2) (fun q => by simp only [Prod.mk.injEq] at q; exact key.2.2 (Or.inr (Or.inl q.1)) q.2) (fun q => by simp only [Prod.mk.injEq] at q; exact key.2.2 (Or.inr (Or.inr q.1)) q.2)
  · rw [hKi]
    obtain ⟨n2, b2, e2, d2⟩ := k
    by_cases hbe : b2 = b ∧ e2 = e
    · obtain ⟨rfl, rfl⟩ := hbe
      by_cases k8 : n2 = 8
      · subst k8
        have hd : d2 = 0 := hk.2.2.1
        rw [hd]
        exact Or.inl rfl
      · by_cases k16 : 16 ≤ n2 ∧ n2 ≤ 19
        · have hj : d2 < (gm b2 e2).1 + 1 := by
            rcases (show n2 = 16 ∨ n2 = 17 ∨ n2 = 18 ∨ n2 = 19 by omega) with rfl | rfl | rfl | rfl
            · have := hk.2.2; rw [g0] at this; exact this
            · have := hk.2.2; rw [g0] at this; exact this
            · have := hk.2.2; rw [g0] at this; exact this
            · have := hk.2.2; rw [g0] at this; exact this
          by_cases hjj : d2 = (gm b2 e2).1
          · rcases (show n2 = 16 ∨ n2 = 17 ∨ n2 = 18 ∨ n2 = 19 by omega) with rfl | rfl | rfl | rfl <;> simp [hjj]
          · refine Or.inr (Or.inr (Or.inr (Or.inr (Or.inr (hL _ ?_)))))
            rcases (show n2 = 16 ∨ n2 = 17 ∨ n2 = 18 ∨ n2 = 19 by omega) with rfl | rfl | rfl | rfl <;> exact ⟨hb2, he, by omega⟩
        · exact Or.inr (Or.inr (Or.inr (Or.inr (Or.inr (hL _ ((lvS_oth _ k8 (fun q => k16 (by have q : n2 = 16 := q; omega)) (fun q => k16 (by have q : n2 = 17 := q; omega)) (fun q => k16 (by have q : n2 = 18 := q; omega)) (fun q => k16 (by have q : n2 = 19 := q; omega))).mpr hk))))))
    · refine Or.inr (Or.inr (Or.inr (Or.inr (Or.inr (hL _ ?_)))))
      by_cases k8 : n2 = 8
      · subst k8
        have := hk.2.2.2
        rw [gset_ne _ _ hbe] at this
        exact ⟨hk.1, hk.2.1, hk.2.2.1, this⟩
      · by_cases k16 : 16 ≤ n2 ∧ n2 ≤ 19
        · rcases (show n2 = 16 ∨ n2 = 17 ∨ n2 = 18 ∨ n2 = 19 by omega) with rfl | rfl | rfl | rfl <;> (have := hk.2.2; rw [gset_ne _ _ hbe] at this; exact ⟨hk.1, hk.2.1, this⟩)
        · exact (lvS_oth _ k8 (fun q => k16 (by have q : n2 = 16 := q; omega)) (fun q => k16 (by have q : n2 = 17 := q; omega)) (fun q => k16 (by have q : n2 = 18 := q; omega)) (fun q => k16 (by have q : n2 = 19 := q; omega))).mpr hk
  · rcases (hKi k).mp hk with rfl | rfl | rfl | rfl | rfl | hkK
    · exact ⟨hb2, he, rfl, by rw [g0]; show 0 < c2; omega⟩
    · exact ⟨hb2, he, by rw [g0]; exact Nat.lt_succ_self _⟩
    · exact ⟨hb2, he, by rw [g0]; exact Nat.lt_succ_self _⟩
    · exact ⟨hb2, he, by rw [g0]; exact Nat.lt_succ_self _⟩
    · exact ⟨hb2, he, by rw [g0]; exact Nat.lt_succ_self _⟩
    · have hlv := hW k hkK
      obtain ⟨n2, b2, e2, d2⟩ := k
      by_cases k8 : n2 = 8
      · subst k8
        refine ⟨hlv.1, hlv.2.1, hlv.2.2.1, ?_⟩
        by_cases hbe : b2 = b ∧ e2 = e
        · rw [hbe.1, hbe.2, g0]; show 0 < c2; omega
        · rw [gset_ne _ _ hbe]; exact hlv.2.2.2
      · by_cases k16 : 16 ≤ n2 ∧ n2 ≤ 19
        · rcases (show n2 = 16 ∨ n2 = 17 ∨ n2 = 18 ∨ n2 = 19 by omega) with rfl | rfl | rfl | rfl <;>
          · refine ⟨hlv.1, hlv.2.1, ?_⟩
            have h3 := hlv.2.2
            by_cases hbe : b2 = b ∧ e2 = e
            · obtain ⟨rfl, rfl⟩ := hbe
              rw [g0]
              exact Nat.lt_succ_of_lt h3
            · rw [gset_ne _ _ hbe]; exact h3
        · exact (lvS_oth _ k8 (fun q => k16 (by have q : n2 = 16 := q; omega)) (fun q => k16 (by have q : n2 = 17 := q; omega)) (fun q => k16 (by have q : n2 = 18 := q; omega)) (fun q => k16 (by have q : n2 = 19 := q; omega))).mp hlv
