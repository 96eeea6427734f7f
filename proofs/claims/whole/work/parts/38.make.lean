section WROWS
variable {s : State} {H : Heap} {locs : List Loc} {D : va_G} {A : Nat → Prop}
variable {L : KN → Prop} {tc : TC} {dz : Nat} {ad0 ad ad1 : KN → Nat} {Ks0 Ks Ks1 : List KN} {st0 st st1 : KN → va_E} {self k : KN} {nw T : KN → Prop} {e : va_E}
theorem WF.fresh (w : WF L tc dz ad0 Ks0 st0 self nw T (ad, Ks, st)) (hk : ¬ nw k) (h0 : k ∉ Ks0) : k ∉ Ks := fun q => ((w.2.1 k).mp q).elim hk h0
theorem w_step (h : Sx D A ad1 (k :: Ks) (sset st k e) s H locs) (w : WF L tc dz ad0 Ks0 st0 self nw T (ad, Ks, st)) (hk : ¬ nw k) (h0 : k ∉ Ks0) (hL : L k) (hn : ∀ k2, k2 ≠ k → ad1 k2 = ad k2) :
    ∃ (Ks1 : List KN) (st1 : KN → va_E), Sx D A ad1 Ks1 st1 s H locs ∧ k ∈ Ks1 ∧ st1 k = e ∧ (∀ k2, k2 ∈ Ks → ad1 k2 = ad k2 ∧ k2 ∈ Ks1 ∧ st1 k2 = st k2) ∧ WF L tc dz ad0 Ks0 st0 self (fun k2 => k2 = k ∨ nw k2) T (ad1, Ks1, st1) := by
  have hkn := w.fresh hk h0
  refine ⟨k :: Ks, sset st k e, h, List.mem_cons_self, sset_eq _ _ _, fun k2 h2 => ⟨hn k2 (k_ne h2 hkn), List.mem_cons_of_mem _ h2, sset_ne _ _ (k_ne h2 hkn)⟩, w.alloc hk hL hn (fun k2 h2 => sset_ne _ _ h2) (fun k2 => List.mem_cons) h0⟩
theorem w_put (h : Sx D A ad Ks (sset st k e) s H locs) (w : WF L tc dz ad0 Ks0 st0 self nw T (ad, Ks, st)) (hT : ¬ T k) (h0 : k ∈ Ks0 → k = self) :
    ∃ st1 : KN → va_E, Sx D A ad Ks st1 s H locs ∧ st1 k = e ∧ (∀ k2, k2 ≠ k → st1 k2 = st k2) ∧ WF L tc dz ad0 Ks0 st0 self nw T (ad, Ks, st1) :=
  ⟨sset st k e, h, sset_eq _ _ _, fun k2 h2 => sset_ne _ _ h2, w.put hT h0 (fun k2 h2 => sset_ne _ _ h2)⟩
theorem w_sub {nwj : KN → Prop} (hm : Made L tc dz ad Ks st k nwj (ad1, Ks1, st1)) (hf : ∀ k2, nwj k2 → k2 ∉ Ks) : ∀ k2, k2 ∈ Ks → ad1 k2 = ad k2 ∧ k2 ∈ Ks1 ∧ (k2 ≠ k → st1 k2 = st k2) :=
  fun k2 h2 => ⟨hm.1.1 k2 (fun z => hf k2 z h2), (hm.1.2.1 k2).mpr (Or.inr h2), hm.1.2.2.1 k2 h2⟩
end WROWS
theorem dfJx4a65c : ∀ j, j < 3 → defaultValue (tyJx4a65c j) = vp_V [.int 0, .null, .int 0] j := by
  intro j hj
  rcases (show j = 0 ∨ j = 1 ∨ j = 2 by omega) with rfl | rfl | rfl <;> rfl

theorem dfX0 : ∀ j, j < 4 → defaultValue (tyX0 j) = vp_V [.int 0, .int 0, .null, .null] j := by
  intro j hj
  rcases (show j = 0 ∨ j = 1 ∨ j = 2 ∨ j = 3 by omega) with rfl | rfl | rfl | rfl <;> rfl

theorem dfX1 : ∀ j, j < 6 → defaultValue (tyX1 j) = vp_V [.int 0, .int 0, .null, .null, .null, .null] j := by
  intro j hj
  rcases (show j = 0 ∨ j = 1 ∨ j = 2 ∨ j = 3 ∨ j = 4 ∨ j = 5 by omega) with rfl | rfl | rfl | rfl | rfl | rfl <;> rfl

theorem dfX2 : ∀ j, j < 5 → defaultValue (tyX2 j) = vp_V [.int 0, .int 0, .null, .null, .null] j := by
  intro j hj
  rcases (show j = 0 ∨ j = 1 ∨ j = 2 ∨ j = 3 ∨ j = 4 by omega) with rfl | rfl | rfl | rfl | rfl <;> rfl

theorem dfX3 : ∀ j, j < 6 → defaultValue (tyX3 j) = vp_V [.int 0, .null, .null, .null, .null, .null] j := by
  intro j hj
  rcases (show j = 0 ∨ j = 1 ∨ j = 2 ∨ j = 3 ∨ j = 4 ∨ j = 5 by omega) with rfl | rfl | rfl | rfl | rfl | rfl <;> rfl

theorem dfX4 : ∀ j, j < 2 → defaultValue (tyX4 j) = vp_V [.null, .null] j := by
  intro j hj
  rcases (show j = 0 ∨ j = 1 by omega) with rfl | rfl <;> rfl

theorem dfX5 : ∀ j, j < 1 → defaultValue (tyX5 j) = vp_V [.null] j := by
  intro j hj
  rcases (show j = 0 by omega) with rfl <;> rfl

theorem dfX6 : ∀ j, j < 3 → defaultValue (tyX6 j) = vp_V [.null, .null, .null] j := by
  intro j hj
  rcases (show j = 0 ∨ j = 1 ∨ j = 2 by omega) with rfl | rfl | rfl <;> rfl

theorem dfX7 : ∀ j, j < 17 → defaultValue (tyX7 j) = vp_V [.int 0, .null, .int 0, .null, .null, .null, .null, .null, .null, .null, .null, .int 0, .null, .null, .null, .int 0, .int 0] j := by
  intro j hj
  rcases (show j = 0 ∨ j = 1 ∨ j = 2 ∨ j = 3 ∨ j = 4 ∨ j = 5 ∨ j = 6 ∨ j = 7 ∨ j = 8 ∨ j = 9 ∨ j = 10 ∨ j = 11 ∨ j = 12 ∨ j = 13 ∨ j = 14 ∨ j = 15 ∨ j = 16 by omega) with rfl | rfl | rfl | rfl | rfl | rfl | rfl | rfl | rfl | rfl | rfl | rfl | rfl | rfl | rfl | rfl | rfl <;> rfl

set_option maxHeartbeats 4000000 in
set_option maxRecDepth 100000 in
theorem m_X5_init {l : Launch} {D : va_G} {tc : TC} {dz : Nat} {ad : KN → Nat} {Ks : List KN} {st : KN → va_E} {L : KN → Prop} (k ka : KN) (hs : st k = .inr (6, [.null])) (hk : k ∈ Ks) (hka : ka ∉ Ks) (hL : L ka) (tk : ∀ ad1, tgtZ tc dz ad1 k = .inr (6, [.ref (ad1 ka)])) (tka : ∀ ad1, tgtZ tc dz ad1 ka = .inl (tc 0, 24, .inl (fun _ => 0))) (rka : ∀ k2, ¬ refP ka k2) : GV l yX5_init cX5_init 1 1 1 24 D tc dz ad Ks st [.ref (ad k)] (Made L tc dz ad Ks st k (fun k2 => k2 = ka)) := by
  intro sz
  refine x_ofW (by decide +kernel) (Nat.le_of_ble_eq_true rfl) (fun pp ee s mm bel meth cd ls X hr hin hz h hl => ?_)
  subst hz
  obtain ⟨hx, hb, hmaxL, hown, hts⟩ := id X.1
  obtain ⟨a0, ta0⟩ : ∃ a0, a0 = ad k := ⟨_, rfl⟩
  have hl : lv_has ls 1 [(0, .ref a0)] := by rw [ta0]; exact hl
  have tm0 := hk
  have tf0 := hs
  have w : WF L tc dz ad Ks st k (fun _ => False) (fun _ => False) (ad, Ks, st) := WF.start
  refine lv_aload_n hx hb dX5_init_0 rfl (lv_at hl 0 rfl) ?_
  refine g_objInit X hl.1 q111 dX5_init_1 (by decide) (by decide) ?_
  refine lv_aload_n hx hb dX5_init_4 rfl (lv_at hl 0 rfl) ?_
  refine lv_bipush (v := nI 24) hx hb dX5_init_5 (by decide) ?_
  refine r_newI X h (k := ka) (w.fresh id hka) (n := 24) (by decide) (by decide) (by decide) (by decide) dX5_init_7 (fun ad1 H a1 ta1 hn h => ?_)
  obtain ⟨Ks1, st1, h, tm1, tf1, kp, w⟩ := w_step h w id hka hL hn
  have tf0 := ((kp _ tm0).2.2).trans tf0
  have ta0 := ta0.trans (kp _ tm0).1.symm
  have tm0 := (kp _ tm0).2.1
  have w := w.addT (Or.inl rfl) (tf1.trans (tka _).symm) (fun k2 q => absurd q (rka k2))
  refine r_putF X h hin ta0 tm0 tf0 rfl inX5 tyX5_ok nmX5 0 (by decide) q112 rfl rfl rfl rfl rfl (by decide) dX5_init_9 (fun H locs h => ?_)
  obtain ⟨st2, h, tf0, kn, w⟩ := w_put h w (fun q => q.elim (fun z => hka (z ▸ hk)) id) (fun _ => rfl)
  have tf0 : st2 k = .inr (6, [.ref a1]) := tf0
  refine g_vret X h hr ⟨w.imp (fun k2 => by simp) (fun k2 q => by exact Or.inl q), tf0.trans (by rw [ta1]; exact (tk _).symm)⟩ (by decide) (by decide) dX5_init_12
