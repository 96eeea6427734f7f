/-! making worlds: targets, references, what is so far made -/
def gz0 : GM := fun _ _ => (0, 0)
/-- what a name holds when all is new -/
def tgtZ (tc : TC) (dz : Nat) (ad : KN → Nat) (k : KN) : va_E := cont tc ad gz0 dz k (fun _ => 0)
def refP (k k2 : KN) : Prop := match k with
  | (0, _, _, _) => k2 = (1, 0, 0, 0) ∨ k2 = (1, 1, 0, 0) ∨ k2 = (20, 0, 0, 0)
  | (1, b, _, _) => k2 = (2, b, 0, 0) ∨ k2 = (3, b, 0, 0)
  | (3, b, _, _) => ∃ e, k2 = (4, b, e, 0)
  | (4, b, e, _) => k2 = (5, b, e, 0) ∨ k2 = (6, b, e, 0) ∨ k2 = (7, b, e, 0)
  | (6, b, e, _) => ∃ d, k2 = (9, b, e, d)
  | (9, b, e, d) => k2 = (10, b, e, d) ∨ k2 = (11, b, e, d) ∨ k2 = (12, b, e, d) ∨ k2 = (14, b, e, d)
  | (12, b, e, d) => k2 = (13, b, e, d)
  | (14, b, e, d) => k2 = (15, b, e, d)
  | (16, b, e, d) => k2 = (17, b, e, d) ∨ k2 = (19, b, e, d)
  | (17, b, e, d) => k2 = (18, b, e, d)
  | (20, _, _, _) => k2 = (21, 0, 0, 0) ∨ k2 = (22, 0, 0, 0) ∨ k2 = (23, 0, 0, 0) ∨ k2 = (24, 0, 0, 0) ∨ k2 = (25, 0, 0, 0)
  | _ => False
theorem tgt_congr {tc : TC} {dz : Nat} {ad ad1 : KN → Nat} : ∀ (k : KN), (∀ k2, refP k k2 → ad1 k2 = ad k2) → tgtZ tc dz ad1 k = tgtZ tc dz ad k
  | (0, b, e, d), h => by
    have h0 : ad1 (1, 0, 0, 0) = ad (1, 0, 0, 0) := h _ (Or.inl rfl)
    have h1 : ad1 (1, 1, 0, 0) = ad (1, 1, 0, 0) := h _ (Or.inr (Or.inl rfl))
    have h2 : ad1 (20, 0, 0, 0) = ad (20, 0, 0, 0) := h _ (Or.inr (Or.inr (rfl)))
    show cont tc ad1 gz0 dz (0, b, e, d) (fun _ => 0) = cont tc ad gz0 dz (0, b, e, d) (fun _ => 0)
    simp only [cont, h0, h1, h2]
  | (1, b, e, d), h => by
    have h0 : ad1 (2, b, 0, 0) = ad (2, b, 0, 0) := h _ (Or.inl rfl)
    have h1 : ad1 (3, b, 0, 0) = ad (3, b, 0, 0) := h _ (Or.inr (rfl))
    show cont tc ad1 gz0 dz (1, b, e, d) (fun _ => 0) = cont tc ad gz0 dz (1, b, e, d) (fun _ => 0)
    simp only [cont, h0, h1]
  | (2, b, e, d), _ => rfl
  | (3, b, e, d), h => by
    have q : (fun e : Nat => some (ad1 (4, b, e, 0))) = fun e => some (ad (4, b, e, 0)) := funext fun e => congrArg some (h _ ⟨e, rfl⟩)
    exact congrArg (fun f => (Sum.inl (tc 4, 10, .inr (.inr (.inr (.inr f)))) : va_E)) q
  | (4, b, e, d), h => by
    have h0 : ad1 (5, b, e, 0) = ad (5, b, e, 0) := h _ (Or.inl rfl)
    have h1 : ad1 (6, b, e, 0) = ad (6, b, e, 0) := h _ (Or.inr (Or.inl rfl))
    have h2 : ad1 (7, b, e, 0) = ad (7, b, e, 0) := h _ (Or.inr (Or.inr (rfl)))
    show cont tc ad1 gz0 dz (4, b, e, d) (fun _ => 0) = cont tc ad gz0 dz (4, b, e, d) (fun _ => 0)
    simp only [cont, h0, h1, h2]
  | (5, b, e, d), _ => rfl
  | (6, b, e, d), h => by
    have q : (fun d : Nat => some (ad1 (9, b, e, d))) = fun d => some (ad (9, b, e, d)) := funext fun d => congrArg some (h _ ⟨d, rfl⟩)
    exact congrArg (fun f => (Sum.inl (tc 5, 6, .inr (.inr (.inr (.inr f)))) : va_E)) q
  | (7, b, e, d), _ => rfl
  | (8, b, e, d), _ => rfl
  | (9, b, e, d), h => by
    have h0 : ad1 (10, b, e, d) = ad (10, b, e, d) := h _ (Or.inl rfl)
    have h1 : ad1 (11, b, e, d) = ad (11, b, e, d) := h _ (Or.inr (Or.inl rfl))
    have h2 : ad1 (12, b, e, d) = ad (12, b, e, d) := h _ (Or.inr (Or.inr (Or.inl rfl)))
    have h3 : ad1 (14, b, e, d) = ad (14, b, e, d) := h _ (Or.inr (Or.inr (Or.inr (rfl))))
    show cont tc ad1 gz0 dz (9, b, e, d) (fun _ => 0) = cont tc ad gz0 dz (9, b, e, d) (fun _ => 0)
    simp only [cont, h0, h1, h2, h3]
  | (10, b, e, d), _ => rfl
  | (11, b, e, d), _ => rfl
  | (12, b, e, d), h => by
    have h0 : ad1 (13, b, e, d) = ad (13, b, e, d) := h _ rfl
    show cont tc ad1 gz0 dz (12, b, e, d) (fun _ => 0) = cont tc ad gz0 dz (12, b, e, d) (fun _ => 0)
    simp only [cont, h0]
  | (13, b, e, d), _ => rfl
  | (14, b, e, d), h => by
    have h0 : ad1 (15, b, e, d) = ad (15, b, e, d) := h _ rfl
    show cont tc ad1 gz0 dz (14, b, e, d) (fun _ => 0) = cont tc ad gz0 dz (14, b, e, d) (fun _ => 0)
    simp only [cont, h0]
  | (15, b, e, d), _ => rfl
  | (16, b, e, d), h => by
    have h0 : ad1 (17, b, e, d) = ad (17, b, e, d) := h _ (Or.inl rfl)
    have h1 : ad1 (19, b, e, d) = ad (19, b, e, d) := h _ (Or.inr (rfl))
    show cont tc ad1 gz0 dz (16, b, e, d) (fun _ => 0) = cont tc ad gz0 dz (16, b, e, d) (fun _ => 0)
    simp only [cont, h0, h1]
  | (17, b, e, d), h => by
    have h0 : ad1 (18, b, e, d) = ad (18, b, e, d) := h _ rfl
    show cont tc ad1 gz0 dz (17, b, e, d) (fun _ => 0) = cont tc ad gz0 dz (17, b, e, d) (fun _ => 0)
    simp only [cont, h0]
  | (18, b, e, d), _ => rfl
  | (19, b, e, d), _ => rfl
  | (20, b, e, d), h => by
    have h0 : ad1 (21, 0, 0, 0) = ad (21, 0, 0, 0) := h _ (Or.inl rfl)
    have h1 : ad1 (22, 0, 0, 0) = ad (22, 0, 0, 0) := h _ (Or.inr (Or.inl rfl))
    have h2 : ad1 (23, 0, 0, 0) = ad (23, 0, 0, 0) := h _ (Or.inr (Or.inr (Or.inl rfl)))
    have h3 : ad1 (24, 0, 0, 0) = ad (24, 0, 0, 0) := h _ (Or.inr (Or.inr (Or.inr (Or.inl rfl))))
    have h4 : ad1 (25, 0, 0, 0) = ad (25, 0, 0, 0) := h _ (Or.inr (Or.inr (Or.inr (Or.inr (rfl)))))
    show cont tc ad1 gz0 dz (20, b, e, d) (fun _ => 0) = cont tc ad gz0 dz (20, b, e, d) (fun _ => 0)
    simp only [cont, h0, h1, h2, h3, h4]
  | (21, b, e, d), _ => rfl
  | (22, b, e, d), _ => rfl
  | (23, b, e, d), _ => rfl
  | (24, b, e, d), _ => rfl
  | (25, b, e, d), _ => rfl
  | (26, b, e, d), _ => rfl
  | (27, b, e, d), _ => rfl
  | (28, b, e, d), _ => rfl
  | (29, b, e, d), _ => rfl
  | (30, b, e, d), _ => rfl
  | (31, b, e, d), _ => rfl
  | (32, b, e, d), _ => rfl
  | (33, b, e, d), _ => rfl
  | (34, b, e, d), _ => rfl
  | (35, b, e, d), _ => rfl
  | (36, b, e, d), _ => rfl
  | (37, b, e, d), _ => rfl
  | (38, b, e, d), _ => rfl
  | (39, b, e, d), _ => rfl
  | (40, b, e, d), _ => rfl
  | (41, b, e, d), _ => rfl
  | (42, b, e, d), _ => rfl
  | (43, b, e, d), _ => rfl
  | (44, b, e, d), _ => rfl
  | (45, b, e, d), _ => rfl
  | (46, b, e, d), _ => rfl
  | (47, b, e, d), _ => rfl
  | (48, b, e, d), _ => rfl
  | (49, b, e, d), _ => rfl
  | (50, b, e, d), _ => rfl
  | (51, b, e, d), _ => rfl
  | (n + 52, b, e, d), _ => rfl
/-- made so far, over the world ad0, Ks0, st0: 'nw' are new names, those of 'T' hold what they are to hold; L: names that may come -/
def WF (L : KN → Prop) (tc : TC) (dz : Nat) (ad0 : KN → Nat) (Ks0 : List KN) (st0 : KN → va_E) (self : KN) (nw T : KN → Prop) (u : WS) : Prop :=
  (∀ k, ¬ nw k → u.1 k = ad0 k) ∧ (∀ k, k ∈ u.2.1 ↔ (nw k ∨ k ∈ Ks0)) ∧ (∀ k, k ∈ Ks0 → k ≠ self → u.2.2 k = st0 k) ∧ (∀ k, T k → nw k ∧ u.2.2 k = tgtZ tc dz u.1 k ∧ ∀ k2, refP k k2 → (nw k2 ∨ ¬ L k2))
def Made (L : KN → Prop) (tc : TC) (dz : Nat) (ad0 : KN → Nat) (Ks0 : List KN) (st0 : KN → va_E) (self : KN) (nw : KN → Prop) (u : WS) : Prop :=
  WF L tc dz ad0 Ks0 st0 self nw nw u ∧ u.2.2 self = tgtZ tc dz u.1 self
section WFS
variable {L : KN → Prop} {tc : TC} {dz : Nat} {ad0 ad ad1 : KN → Nat} {Ks0 Ks Ks1 : List KN} {st0 st st1 : KN → va_E} {self k : KN} {nw T : KN → Prop}
theorem WF.start : WF L tc dz ad0 Ks0 st0 self (fun _ => False) (fun _ => False) (ad0, Ks0, st0) := ⟨fun _ _ => rfl, fun _ => ⟨Or.inr, fun q => q.elim False.elim id⟩, fun _ _ _ => rfl, fun _ q => q.elim⟩
theorem WF.alloc (w : WF L tc dz ad0 Ks0 st0 self nw T (ad, Ks, st)) (hk : ¬ nw k) (hL : L k) (h1 : ∀ k2, k2 ≠ k → ad1 k2 = ad k2) (h2 : ∀ k2, k2 ≠ k → st1 k2 = st k2) (h3 : ∀ k2, k2 ∈ Ks1 ↔ (k2 = k ∨ k2 ∈ Ks)) (h0 : k ∉ Ks0) : WF L tc dz ad0 Ks0 st0 self (fun k2 => k2 = k ∨ nw k2) T (ad1, Ks1, st1) := by
  obtain ⟨w1, w2, w3, w4⟩ := w
  refine ⟨fun k2 q => ?_, fun k2 => ?_, fun k2 q1 q2 => ?_, fun k2 q => ?_⟩
  · rw [not_or] at q
    exact (h1 k2 q.1).trans (w1 k2 q.2)
  · show k2 ∈ Ks1 ↔ _
    have := w2 k2
    rw [h3, show k2 ∈ Ks ↔ _ from this, or_assoc]
  · exact (h2 k2 (fun z => h0 (z ▸ q1))).trans (w3 k2 q1 q2)
  · obtain ⟨t1, t2, t3⟩ := w4 k2 q
    refine ⟨Or.inr t1, ?_, fun k3 r => (t3 k3 r).imp Or.inr id⟩
    have hne : k2 ≠ k := fun z => hk (z ▸ t1)
    refine (h2 k2 hne).trans (t2.trans (tgt_congr k2 fun k3 r => ?_).symm)
    refine h1 k3 fun z => ?_
    subst z
    exact (t3 k3 r).elim hk (fun q => q hL)
theorem WF.addT (w : WF L tc dz ad0 Ks0 st0 self nw T (ad, Ks, st)) (hk : nw k) (he : st k = tgtZ tc dz ad k) (hr : ∀ k2, refP k k2 → (nw k2 ∨ ¬ L k2)) : WF L tc dz ad0 Ks0 st0 self nw (fun k2 => k2 = k ∨ T k2) (ad, Ks, st) := by
  refine ⟨w.1, w.2.1, w.2.2.1, fun k2 q => ?_⟩
  rcases q with rfl | q
  · exact ⟨hk, he, hr⟩
  · exact w.2.2.2 k2 q
theorem WF.put (w : WF L tc dz ad0 Ks0 st0 self nw T (ad, Ks, st)) (hT : ¬ T k) (h0 : k ∈ Ks0 → k = self) (h2 : ∀ k2, k2 ≠ k → st1 k2 = st k2) : WF L tc dz ad0 Ks0 st0 self nw T (ad, Ks, st1) := by
  refine ⟨w.1, w.2.1, fun k2 q1 q2 => ?_, fun k2 q => ?_⟩
  · refine (h2 k2 (fun z => ?_)).trans (w.2.2.1 k2 q1 q2)
    subst z
    exact q2 (h0 q1)
  · obtain ⟨t1, t2, t3⟩ := w.2.2.2 k2 q
    exact ⟨t1, (h2 k2 (fun z => hT (z ▸ q))).trans t2, t3⟩
theorem WF.sub {nwj : KN → Prop} {u : WS} (w : WF L tc dz ad0 Ks0 st0 self nw T (ad, Ks, st)) (hk : nw k) (hT : ¬ T k) (hm : Made L tc dz ad Ks st k nwj u) (hd : ∀ k2, nwj k2 → ¬ nw k2 ∧ k2 ∉ Ks0 ∧ L k2) (hr : ∀ k2, refP k k2 → (nwj k2 ∨ ¬ L k2)) (h0 : k ∉ Ks0) : WF L tc dz ad0 Ks0 st0 self (fun k2 => nwj k2 ∨ nw k2) (fun k2 => k2 = k ∨ nwj k2 ∨ T k2) u := by
  obtain ⟨w1, w2, w3, w4⟩ := w
  obtain ⟨⟨m1, m2, m3, m4⟩, m5⟩ := hm
  refine ⟨fun k2 q => ?_, fun k2 => ?_, fun k2 q1 q2 => ?_, fun k2 q => ?_⟩
  · rw [not_or] at q
    exact (m1 k2 q.1).trans (w1 k2 q.2)
  · rw [m2, show k2 ∈ Ks ↔ _ from w2 k2, or_assoc]
  · exact (m3 k2 ((w2 k2).mpr (Or.inr q1)) (fun z => h0 (z ▸ q1))).trans (w3 k2 q1 q2)
  · rcases q with rfl | q | q
    · exact ⟨Or.inr hk, m5, fun k3 r => (hr k3 r).imp Or.inl id⟩
    · obtain ⟨t1, t2, t3⟩ := m4 k2 q
      exact ⟨Or.inl t1, t2, fun k3 r => (t3 k3 r).imp Or.inl id⟩
    · obtain ⟨t1, t2, t3⟩ := w4 k2 q
      refine ⟨Or.inr t1, ?_, fun k3 r => (t3 k3 r).imp Or.inr id⟩
      refine (m3 k2 ((w2 k2).mpr (Or.inl t1)) (fun z => hT (z ▸ q))).trans (t2.trans (tgt_congr k2 fun k3 r => ?_).symm)
      refine m1 k3 fun z => ?_
      exact (t3 k3 r).elim (hd k3 z).1 (fun q => q (hd k3 z).2.2)
theorem WF.imp {nw1 T1 : KN → Prop} {u : WS} (w : WF L tc dz ad0 Ks0 st0 self nw T u) (h1 : ∀ k2, nw1 k2 ↔ nw k2) (h2 : ∀ k2, T1 k2 → T k2) : WF L tc dz ad0 Ks0 st0 self nw1 T1 u := by
  refine ⟨fun k2 q => w.1 k2 (fun z => q ((h1 k2).mpr z)), fun k2 => by rw [w.2.1, h1], w.2.2.1, fun k2 q => ?_⟩
  obtain ⟨t1, t2, t3⟩ := w.2.2.2 k2 (h2 k2 q)
  exact ⟨(h1 k2).mpr t1, t2, fun k3 r => (t3 k3 r).imp (h1 k3).mpr id⟩
end WFS
theorem k_ne {k k2 : KN} {Ks : List KN} (h : k ∈ Ks) (h2 : k2 ∉ Ks) : k ≠ k2 := fun z => h2 (z ▸ h)
