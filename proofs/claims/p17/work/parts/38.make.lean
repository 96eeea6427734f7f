section WROWS
variable {s : State} {H : Heap} {locs : List Loc} {D : va_G} {A : Nat → Prop}
variable {L : KN → Prop} {tc : TC} {dz : Nat} {ad0 ad ad1 : KN → Nat} {Ks0 Ks Ks1 : List KN} {st0 st st1 : KN → va_E} {self k : KN} {nw T : KN → Prop} {e : va_E}
theorem WF.fresh (w : WF L tc dz ad0 Ks0 st0 self nw T (ad, Ks, st)) (hk : ¬ nw k) (h0 : k ∉ Ks0) : k ∉ Ks := fun q => ((w.2.1 k).mp q).elim hk h0
theorem w_step (h : Sx D A ad1 (k :: Ks) (sset st k e) s H locs) (w : WF L tc dz ad0 Ks0 st0 self nw T (ad, Ks, st)) (hk : ¬ nw k) (h0 : k ∉ Ks0) (hL : L k) (hn : ∀ k2, k2 ≠ k → ad1 k2 = ad k2) :
    ∃ (Ks1 : List KN) (st1 : KN → va_E), Sx D A ad1 Ks1 st1 s H locs ∧ k ∈ Ks1 ∧ st1 k = e ∧ (∀ k2, k2 ∈ Ks → ad1 k2 = ad k2 ∧ k2 ∈ Ks1 ∧ st1 k2 = st k2) ∧ WF L tc dz ad0 Ks0 st0 self (fun k2 => k2 = k ∨ nw k2) T (ad1, Ks1, st1) := by
  have hkn := w.fresh hk h0
  refine ⟨k :: Ks, sset st k e, h, List.mem_cons_self, sset_eq _ _ _, fun k2 h2 => ⟨hn k2 (k_ne h2 hkn), List.mem_cons_of_mem _ h2, sset_ne _ _ (k_ne h2 hkn)⟩, w.alloc hk hL hn (fun k2 h2 => sset_ne _ _ h2) (fun k2 => List.mem_cons) h0⟩
theorem w_put (h : Sx D A ad Ks (sset st k e) s H locs) (w : WF L tc dz ad0 Ks0 st0 self nw T (ad, Ks, st)) (hT : ¬ T k) (h0 : k ∈ Ks0 → k = self) :
    ∃ st1 : KN → va_E, Sx D A ad Ks st1 s H locs ∧ st1 k = e ∧ (∀ k2, k2 ≠ k → st1 k2 = st k2) ∧ WF L tc dz ad0 Ks0 st0 self nw T (ad, Ks, st1) :=
  ⟨sset st k e, h, sset_eq _ _ _, fun k2 h2 => sset_ne _ _ h2, w.put hT h0 (fun k2 h2 => sset_ne _ _ h2)⟩
theorem w_sub {nwj : KN → Prop} (hm : Made L tc dz ad Ks st k nwj (ad1, Ks1, st1)) (hf : ∀ k2, nwj k2 → k2 ∉ Ks) : ∀ k2, k2 ∈ Ks → ad1 k2 = ad k2 ∧ k2 ∈ Ks1 ∧ (k2 ≠ k → st1 k2 = st k2) :=
  fun k2 h2 => ⟨hm.1.1 k2 (fun z => hf k2 z h2), (hm.1.2.1 k2).mpr (Or.inr h2), hm.1.2.2.1 k2 h2⟩
end WROWS
theorem dfJx4a65c : ∀ j, j < 3 → defaultValue (tyJx4a65c j) = vp_V [.int 0, .null, .int 0] j := by
  intro j hj
  rcases (show j = 0 ∨ j = 1 ∨ j = 2 by omega) with rfl | rfl | rfl <;> rfl

theorem dfX0 : ∀ j, j < 4 → defaultValue (tyX0 j) = vp_V [.int 0, .int 0, .null, .null] j := by
  intro j hj
  rcases (show j = 0 ∨ j = 1 ∨ j = 2 ∨ j = 3 by omega) with rfl | rfl | rfl | rfl <;> rfl

theorem dfX1 : ∀ j, j < 6 → defaultValue (tyX1 j) = vp_V [.int 0, .int 0, .null, .null, .null, .null] j := by
  intro j hj
  rcases (show j = 0 ∨ j = 1 ∨ j = 2 ∨ j = 3 ∨ j = 4 ∨ j = 5 by omega) with rfl | rfl | rfl | rfl | rfl | rfl <;> rfl

theorem dfX2 : ∀ j, j < 5 → defaultValue (tyX2 j) = vp_V [.int 0, .int 0, .null, .null, .null] j := by
  intro j hj
  rcases (show j = 0 ∨ j = 1 ∨ j = 2 ∨ j = 3 ∨ j = 4 by omega) with rfl | rfl | rfl | rfl | rfl <;> rfl

theorem dfX3 : ∀ j, j < 6 → defaultValue (tyX3 j) = vp_V [.int 0, .null, .null, .null, .null, .null] j := by
  intro j hj
  rcases (show j = 0 ∨ j = 1 ∨ j = 2 ∨ j = 3 ∨ j = 4 ∨ j = 5 by omega) with rfl | rfl | rfl | rfl | rfl | rfl <;> rfl

theorem dfX4 : ∀ j, j < 2 → defaultValue (tyX4 j) = vp_V [.null, .null] j := by
  intro j hj
  rcases (show j = 0 ∨ j = 1 by omega) with rfl | rfl <;> rfl

theorem dfX5 : ∀ j, j < 1 → defaultValue (tyX5 j) = vp_V [.null] j := by
  intro j hj
  rcases (show j = 0 by omega) with rfl <;> rfl

theorem dfX6 : ∀ j, j < 3 → defaultValue (tyX6 j) = vp_V [.null, .null, .null] j := by
  intro j hj
  rcases (show j = 0 ∨ j = 1 ∨ j = 2 by omega) with rfl | rfl | rfl <;> rfl


set_option maxHeartbeats 4000000 in
set_option maxRecDepth 100000 in
theorem m_X5_init {l : Launch} {D : va_G} {tc : TC} {dz : Nat} {ad : KN → Nat} {Ks : List KN} {st : KN → va_E} {L : KN → Prop} (k ka : KN) (hs : st k = .inr (6, [.null])) (hk : k ∈ Ks) (hka : ka ∉ Ks) (hL : L ka) (tk : ∀ ad1, tgtZ tc dz ad1 k = .inr (6, [.ref (ad1 ka)])) (tka : ∀ ad1, tgtZ tc dz ad1 ka = .inl (tc 0, 24, .inl (fun _ => 0))) (rka : ∀ k2, ¬ refP ka k2) : GV l yX5_init cX5_init 1 1 1 24 D tc dz ad Ks st [.ref (ad k)] (Made L tc dz ad Ks st k (fun k2 => k2 = ka)) := by
  intro sz
  refine x_ofW (by decide +kernel) (Nat.le_of_ble_eq_true rfl) (fun pp ee s mm bel meth cd ls X hr hin hz h hl => ?_)
  subst hz
  obtain ⟨hx, hb, hmaxL, hown, hts⟩ := id X.1
  obtain ⟨a0, ta0⟩ : ∃ a0, a0 = ad k := ⟨_, rfl⟩
  have hl : lv_has ls 1 [(0, .ref a0)] := by rw [ta0]; exact hl
  have tm0 := hk
  have tf0 := hs
  have w : WF L tc dz ad Ks st k (fun _ => False) (fun _ => False) (ad, Ks, st) := WF.start
  refine lv_aload_n hx hb dX5_init_0 rfl (lv_at hl 0 rfl) ?_
  refine g_objInit X hl.1 q89 dX5_init_1 (by decide) (by decide) ?_
  refine lv_aload_n hx hb dX5_init_4 rfl (lv_at hl 0 rfl) ?_
  refine lv_bipush (v := nI 24) hx hb dX5_init_5 (by decide) ?_
  refine r_newI X h (k := ka) (w.fresh id hka) (n := 24) (by decide) (by decide) (by decide) (by decide) dX5_init_7 (fun ad1 H a1 ta1 hn h => ?_)
  obtain ⟨Ks1, st1, h, tm1, tf1, kp, w⟩ := w_step h w id hka hL hn
  have tf0 := ((kp _ tm0).2.2).trans tf0
  have ta0 := ta0.trans (kp _ tm0).1.symm
  have tm0 := (kp _ tm0).2.1
  have w := w.addT (Or.inl rfl) (tf1.trans (tka _).symm) (fun k2 q => absurd q (rka k2))
  refine r_putF X h hin ta0 tm0 tf0 rfl inX5 tyX5_ok nmX5 0 (by decide) q90 rfl rfl rfl rfl rfl (Nat.le_of_ble_eq_true rfl) dX5_init_9 (fun H locs h => ?_)
  obtain ⟨st2, h, tf0, kn, w⟩ := w_put h w (fun q => q.elim (fun z => hka (z ▸ hk)) id) (fun _ => rfl)
  have tf0 : st2 k = .inr (6, [.ref a1]) := tf0
  refine g_vret X h hr ⟨w.imp (fun k2 => by simp) (fun k2 q => by exact Or.inl q), tf0.trans (by rw [ta1]; exact (tk _).symm)⟩ (by decide) (by decide) dX5_init_12

def LK (k : KN) : Prop := (k.1 = 4 → k.2.2.1 < 10) ∧ (k.1 = 9 → k.2.2.2 < 6)
def nwC (b e d : Nat) (k : KN) : Prop := k.2.1 = b ∧ k.2.2.1 = e ∧ k.2.2.2 = d ∧ 10 ≤ k.1 ∧ k.1 ≤ 15
def nwM (b e j : Nat) (k : KN) : Prop := k.2.1 = b ∧ k.2.2.1 = e ∧ k.2.2.2 = j ∧ 17 ≤ k.1 ∧ k.1 ≤ 19
def nwJ (k : KN) : Prop := k.2.1 = 0 ∧ k.2.2.1 = 0 ∧ k.2.2.2 = 0 ∧ 21 ≤ k.1 ∧ k.1 ≤ 25

set_option maxHeartbeats 4000000 in
set_option maxRecDepth 100000 in
theorem m_X1_init {l : Launch} {D : va_G} {tc : TC} {dz : Nat} {ad : KN → Nat} {Ks : List KN} {st : KN → va_E} (b e d : Nat) (hd : d < 6) (hs : st (9, b, e, d) = .inr (2, [.int 0, .int 0, .null, .null, .null, .null])) (hk : (9, b, e, d) ∈ Ks) (hf : ∀ k2, nwC b e d k2 → k2 ∉ Ks) : GV l yX1_init cX1_init 1 2 6 98 D tc dz ad Ks st [.ref (ad (9, b, e, d))] (Made LK tc dz ad Ks st (9, b, e, d) (nwC b e d)) := by
  intro sz
  refine x_ofW (by decide +kernel) (Nat.le_of_ble_eq_true rfl) (fun pp ee s mm bel meth cd ls X hr hin hz h hl => ?_)
  subst hz
  obtain ⟨hx, hb, hmaxL, hown, hts⟩ := id X.1
  obtain ⟨a0, ta0⟩ : ∃ a0, a0 = ad (9, b, e, d) := ⟨_, rfl⟩
  have hl : lv_has ls 1 [(0, .ref a0)] := by rw [ta0]; exact hl
  have tm0 := hk
  have tf0 := hs
  have w : WF LK tc dz ad Ks st (9, b, e, d) (fun _ => False) (fun _ => False) (ad, Ks, st) := WF.start
  refine lv_aload_n hx hb dX1_init_0 rfl (lv_at hl 0 rfl) ?_
  refine g_objInit X hl.1 q83 dX1_init_1 (by decide) (by decide) ?_
  refine lv_aload_n hx hb dX1_init_4 rfl (lv_at hl 0 rfl) ?_
  refine lv_bipush (v := nI 24) hx hb dX1_init_5 (by decide) ?_
  refine r_newI X h (k := (10, b, e, d)) (w.fresh (by simp) (hf (10, b, e, d) (by simp [nwC]))) (n := 24) (by decide) (by decide) (by decide) (by decide) dX1_init_7 (fun ad1 H a1 ta1 hn h => ?_)
  obtain ⟨Ks1, st1, h, tm1, tf1, kp, w⟩ := w_step h w (by simp) (hf (10, b, e, d) (by simp [nwC])) (by simp [LK]) hn
  have tf0 := ((kp _ tm0).2.2).trans tf0
  have ta0 := ta0.trans (kp _ tm0).1.symm
  have tm0 := (kp _ tm0).2.1
  have w := w.addT (Or.inl rfl) (tf1.trans rfl) (fun k2 q => absurd q id)
  refine r_putF X h hin ta0 tm0 tf0 rfl inX1 tyX1_ok nmX1 2 (by decide) q103 rfl rfl rfl rfl rfl (Nat.le_of_ble_eq_true rfl) dX1_init_9 (fun H locs h => ?_)
  obtain ⟨st2, h, tf0, kn, w⟩ := w_put h w (by simp) (fun _ => rfl)
  have tf0 : st2 (9, b, e, d) = .inr (2, [.int 0, .int 0, .ref a1, .null, .null, .null]) := tf0
  refine lv_aload_n hx hb dX1_init_12 rfl (lv_at hl 0 rfl) ?_
  refine lv_bipush (v := nI 24) hx hb dX1_init_13 (by decide) ?_
  refine r_newI X h (k := (11, b, e, d)) (w.fresh (by simp) (hf (11, b, e, d) (by simp [nwC]))) (n := 24) (by decide) (by decide) (by decide) (by decide) dX1_init_15 (fun ad3 H a3 ta3 hn h => ?_)
  obtain ⟨Ks3, st3, h, tm3, tf3, kp, w⟩ := w_step h w (by simp) (hf (11, b, e, d) (by simp [nwC])) (by simp [LK]) hn
  have tf0 := ((kp _ tm0).2.2).trans tf0
  have ta0 := ta0.trans (kp _ tm0).1.symm
  have tm0 := (kp _ tm0).2.1
  have ta1 := ta1.trans (kp _ tm1).1.symm
  have tm1 := (kp _ tm1).2.1
  have w := w.addT (Or.inl rfl) (tf3.trans rfl) (fun k2 q => absurd q id)
  refine r_putF X h hin ta0 tm0 tf0 rfl inX1 tyX1_ok nmX1 3 (by decide) q106 rfl rfl rfl rfl rfl (Nat.le_of_ble_eq_true rfl) dX1_init_17 (fun H locs h => ?_)
  obtain ⟨st4, h, tf0, kn, w⟩ := w_put h w (by simp) (fun _ => rfl)
  have tf0 : st4 (9, b, e, d) = .inr (2, [.int 0, .int 0, .ref a1, .ref a3, .null, .null]) := tf0
  refine lv_aload_n hx hb dX1_init_20 rfl (lv_at hl 0 rfl) ?_
  refine r_new X h (k := (12, b, e, d)) (w.fresh (by simp) (hf (12, b, e, d) (by simp [nwC]))) (ci := 6) (fs := [.null]) rfl inX5 tyX5_ok q84 q85 q13 dfX5 (by decide) (by decide) dX1_init_21 (fun ad5 H a5 ta5 hn h => ?_)
  obtain ⟨Ks5, st5, h, tm5, tf5, kp, w⟩ := w_step h w (by simp) (hf (12, b, e, d) (by simp [nwC])) (by simp [LK]) hn
  have tf0 := ((kp _ tm0).2.2).trans tf0
  have ta0 := ta0.trans (kp _ tm0).1.symm
  have tm0 := (kp _ tm0).2.1
  have ta1 := ta1.trans (kp _ tm1).1.symm
  have tm1 := (kp _ tm1).2.1
  have ta3 := ta3.trans (kp _ tm3).1.symm
  have tm3 := (kp _ tm3).2.1
  refine lv_dup hx hb dX1_init_24 rfl ?_
  have hfr : ∀ k2, (fun k2 => k2 = (13, b, e, d)) k2 → k2 ∉ Ks5 := fun k2 z => z ▸ w.fresh (by simp) (hf (13, b, e, d) (by simp [nwC]))
  refine g_doneV X h (g_runIN X h (b := a5) (by rw [ta5]; exact m_X5_init (L := LK) (12, b, e, d) (13, b, e, d) tf5 tm5 (hfr _ rfl) (by simp [LK]) (fun _ => rfl) (fun _ => rfl) (fun k2 q => q) _) F_X5_init t86 q87 rfl rfl (by decide) (by decide) ⟨by decide, by decide⟩ hl.1 (Nat.le_of_ble_eq_true rfl) dX1_init_25 rfl) (fun u H locs hP h => ?_)
  obtain ⟨ad6, Ks6, st6⟩ := u
  have h : Sx D (wA ad Ks s.heap.size) ad6 Ks6 st6 s H locs := h
  have kp := w_sub hP hfr
  have w := w.sub (by simp) (by simp) hP (fun k2 z => by subst z; exact ⟨by simp, (hf (13, b, e, d) (by simp [nwC])), (by simp [LK])⟩) (fun k2 z => Or.inl z) (hf (12, b, e, d) (by simp [nwC]))
  have ta5 := ta5.trans (kp _ tm5).1.symm
  have tm5 := (kp _ tm5).2.1
  have tf0 := ((kp _ tm0).2.2 (nek (by decide))).trans tf0
  have ta0 := ta0.trans (kp _ tm0).1.symm
  have tm0 := (kp _ tm0).2.1
  have ta1 := ta1.trans (kp _ tm1).1.symm
  have tm1 := (kp _ tm1).2.1
  have ta3 := ta3.trans (kp _ tm3).1.symm
  have tm3 := (kp _ tm3).2.1
  refine r_putF X h hin ta0 tm0 tf0 rfl inX1 tyX1_ok nmX1 4 (by decide) q108 rfl rfl rfl rfl rfl (Nat.le_of_ble_eq_true rfl) dX1_init_28 (fun H locs h => ?_)
  obtain ⟨st7, h, tf0, kn, w⟩ := w_put h w (by simp) (fun _ => rfl)
  have tf0 : st7 (9, b, e, d) = .inr (2, [.int 0, .int 0, .ref a1, .ref a3, .ref a5, .null]) := tf0
  refine lv_aload_n hx hb dX1_init_31 rfl (lv_at hl 0 rfl) ?_
  refine r_new X h (k := (14, b, e, d)) (w.fresh (by simp) (hf (14, b, e, d) (by simp [nwC]))) (ci := 6) (fs := [.null]) rfl inX5 tyX5_ok q84 q85 q13 dfX5 (by decide) (by decide) dX1_init_32 (fun ad8 H a8 ta8 hn h => ?_)
  obtain ⟨Ks8, st8, h, tm8, tf8, kp, w⟩ := w_step h w (by simp) (hf (14, b, e, d) (by simp [nwC])) (by simp [LK]) hn
  have tf0 := ((kp _ tm0).2.2).trans tf0
  have ta0 := ta0.trans (kp _ tm0).1.symm
  have tm0 := (kp _ tm0).2.1
  have ta1 := ta1.trans (kp _ tm1).1.symm
  have tm1 := (kp _ tm1).2.1
  have ta3 := ta3.trans (kp _ tm3).1.symm
  have tm3 := (kp _ tm3).2.1
  have ta5 := ta5.trans (kp _ tm5).1.symm
  have tm5 := (kp _ tm5).2.1
  refine lv_dup hx hb dX1_init_35 rfl ?_
  have hfr : ∀ k2, (fun k2 => k2 = (15, b, e, d)) k2 → k2 ∉ Ks8 := fun k2 z => z ▸ w.fresh (by simp) (hf (15, b, e, d) (by simp [nwC]))
  refine g_doneV X h (g_runIN X h (b := a8) (by rw [ta8]; exact m_X5_init (L := LK) (14, b, e, d) (15, b, e, d) tf8 tm8 (hfr _ rfl) (by simp [LK]) (fun _ => rfl) (fun _ => rfl) (fun k2 q => q) _) F_X5_init t86 q87 rfl rfl (by decide) (by decide) ⟨by decide, by decide⟩ hl.1 (Nat.le_of_ble_eq_true rfl) dX1_init_36 rfl) (fun u H locs hP h => ?_)
  obtain ⟨ad9, Ks9, st9⟩ := u
  have h : Sx D (wA ad Ks s.heap.size) ad9 Ks9 st9 s H locs := h
  have kp := w_sub hP hfr
  have w := w.sub (by simp) (by simp) hP (fun k2 z => by subst z; exact ⟨by simp, (hf (15, b, e, d) (by simp [nwC])), (by simp [LK])⟩) (fun k2 z => Or.inl z) (hf (14, b, e, d) (by simp [nwC]))
  have ta8 := ta8.trans (kp _ tm8).1.symm
  have tm8 := (kp _ tm8).2.1
  have tf0 := ((kp _ tm0).2.2 (nek (by decide))).trans tf0
  have ta0 := ta0.trans (kp _ tm0).1.symm
  have tm0 := (kp _ tm0).2.1
  have ta1 := ta1.trans (kp _ tm1).1.symm
  have tm1 := (kp _ tm1).2.1
  have ta3 := ta3.trans (kp _ tm3).1.symm
  have tm3 := (kp _ tm3).2.1
  have ta5 := ta5.trans (kp _ tm5).1.symm
  have tm5 := (kp _ tm5).2.1
  refine r_putF X h hin ta0 tm0 tf0 rfl inX1 tyX1_ok nmX1 5 (by decide) q112 rfl rfl rfl rfl rfl (Nat.le_of_ble_eq_true rfl) dX1_init_39 (fun H locs h => ?_)
  obtain ⟨st10, h, tf0, kn, w⟩ := w_put h w (by simp) (fun _ => rfl)
  have tf0 : st10 (9, b, e, d) = .inr (2, [.int 0, .int 0, .ref a1, .ref a3, .ref a5, .ref a8]) := tf0
  refine g_vret X h hr ⟨w.imp (fun k2 => by unfold nwC; obtain ⟨n2, b2, e2, d2⟩ := k2; simp only [Prod.mk.injEq, or_false]; clear w; (constructor <;> intro q <;> omega)) (fun k2 q => by unfold nwC at q; obtain ⟨n2, b2, e2, d2⟩ := k2; simp only [Prod.mk.injEq] at q ⊢; omega), tf0.trans (by rw [ta1, ta3, ta5, ta8]; rfl)⟩ (by decide) (by decide) dX1_init_42

set_option maxHeartbeats 4000000 in
set_option maxRecDepth 100000 in
theorem m_X4_init {l : Launch} {D : va_G} {tc : TC} {dz : Nat} {ad : KN → Nat} {Ks : List KN} {st : KN → va_E} (b e j : Nat) (hs : st (16, b, e, j) = .inr (5, [.null, .null])) (hk : (16, b, e, j) ∈ Ks) (hf : ∀ k2, nwM b e j k2 → k2 ∉ Ks) : GV l yX4_init cX4_init 1 2 3 31 D tc dz ad Ks st [.ref (ad (16, b, e, j))] (Made LK tc dz ad Ks st (16, b, e, j) (nwM b e j)) := by
  intro sz
  refine x_ofW (by decide +kernel) (Nat.le_of_ble_eq_true rfl) (fun pp ee s mm bel meth cd ls X hr hin hz h hl => ?_)
  subst hz
  obtain ⟨hx, hb, hmaxL, hown, hts⟩ := id X.1
  obtain ⟨a0, ta0⟩ : ∃ a0, a0 = ad (16, b, e, j) := ⟨_, rfl⟩
  have hl : lv_has ls 1 [(0, .ref a0)] := by rw [ta0]; exact hl
  have tm0 := hk
  have tf0 := hs
  have w : WF LK tc dz ad Ks st (16, b, e, j) (fun _ => False) (fun _ => False) (ad, Ks, st) := WF.start
  refine lv_aload_n hx hb dX4_init_0 rfl (lv_at hl 0 rfl) ?_
  refine g_objInit X hl.1 q499 dX4_init_1 (by decide) (by decide) ?_
  refine lv_aload_n hx hb dX4_init_4 rfl (lv_at hl 0 rfl) ?_
  refine r_new X h (k := (17, b, e, j)) (w.fresh (by simp) (hf (17, b, e, j) (by simp [nwM]))) (ci := 6) (fs := [.null]) rfl inX5 tyX5_ok q500 q85 q13 dfX5 (by decide) (by decide) dX4_init_5 (fun ad1 H a1 ta1 hn h => ?_)
  obtain ⟨Ks1, st1, h, tm1, tf1, kp, w⟩ := w_step h w (by simp) (hf (17, b, e, j) (by simp [nwM])) (by simp [LK]) hn
  have tf0 := ((kp _ tm0).2.2).trans tf0
  have ta0 := ta0.trans (kp _ tm0).1.symm
  have tm0 := (kp _ tm0).2.1
  refine lv_dup hx hb dX4_init_8 rfl ?_
  have hfr : ∀ k2, (fun k2 => k2 = (18, b, e, j)) k2 → k2 ∉ Ks1 := fun k2 z => z ▸ w.fresh (by simp) (hf (18, b, e, j) (by simp [nwM]))
  refine g_doneV X h (g_runIN X h (b := a1) (by rw [ta1]; exact m_X5_init (L := LK) (17, b, e, j) (18, b, e, j) tf1 tm1 (hfr _ rfl) (by simp [LK]) (fun _ => rfl) (fun _ => rfl) (fun k2 q => q) _) F_X5_init t501 q87 rfl rfl (by decide) (by decide) ⟨by decide, by decide⟩ hl.1 (Nat.le_of_ble_eq_true rfl) dX4_init_9 rfl) (fun u H locs hP h => ?_)
  obtain ⟨ad2, Ks2, st2⟩ := u
  have h : Sx D (wA ad Ks s.heap.size) ad2 Ks2 st2 s H locs := h
  have kp := w_sub hP hfr
  have w := w.sub (by simp) (by simp) hP (fun k2 z => by subst z; exact ⟨by simp, (hf (18, b, e, j) (by simp [nwM])), (by simp [LK])⟩) (fun k2 z => Or.inl z) (hf (17, b, e, j) (by simp [nwM]))
  have ta1 := ta1.trans (kp _ tm1).1.symm
  have tm1 := (kp _ tm1).2.1
  have tf0 := ((kp _ tm0).2.2 (nek (by decide))).trans tf0
  have ta0 := ta0.trans (kp _ tm0).1.symm
  have tm0 := (kp _ tm0).2.1
  refine r_putF X h hin ta0 tm0 tf0 rfl inX4 tyX4_ok nmX4 0 (by decide) q502 rfl rfl rfl rfl rfl (Nat.le_of_ble_eq_true rfl) dX4_init_12 (fun H locs h => ?_)
  obtain ⟨st3, h, tf0, kn, w⟩ := w_put h w (by simp) (fun _ => rfl)
  have tf0 : st3 (16, b, e, j) = .inr (5, [.ref a1, .null]) := tf0
  refine lv_aload_n hx hb dX4_init_15 rfl (lv_at hl 0 rfl) ?_
  refine lv_bipush (v := nI 6) hx hb dX4_init_16 (by decide) ?_
  refine r_newI X h (k := (19, b, e, j)) (w.fresh (by simp) (hf (19, b, e, j) (by simp [nwM]))) (n := 6) (by decide) (by decide) (by decide) (by decide) dX4_init_18 (fun ad4 H a4 ta4 hn h => ?_)
  obtain ⟨Ks4, st4, h, tm4, tf4, kp, w⟩ := w_step h w (by simp) (hf (19, b, e, j) (by simp [nwM])) (by simp [LK]) hn
  have tf0 := ((kp _ tm0).2.2).trans tf0
  have ta0 := ta0.trans (kp _ tm0).1.symm
  have tm0 := (kp _ tm0).2.1
  have ta1 := ta1.trans (kp _ tm1).1.symm
  have tm1 := (kp _ tm1).2.1
  have w := w.addT (Or.inl rfl) (tf4.trans rfl) (fun k2 q => absurd q id)
  refine r_putF X h hin ta0 tm0 tf0 rfl inX4 tyX4_ok nmX4 1 (by decide) q504 rfl rfl rfl rfl rfl (Nat.le_of_ble_eq_true rfl) dX4_init_20 (fun H locs h => ?_)
  obtain ⟨st5, h, tf0, kn, w⟩ := w_put h w (by simp) (fun _ => rfl)
  have tf0 : st5 (16, b, e, j) = .inr (5, [.ref a1, .ref a4]) := tf0
  refine g_vret X h hr ⟨w.imp (fun k2 => by unfold nwM; obtain ⟨n2, b2, e2, d2⟩ := k2; simp only [Prod.mk.injEq, or_false]; clear w; (constructor <;> intro q <;> omega)) (fun k2 q => by unfold nwM at q; obtain ⟨n2, b2, e2, d2⟩ := k2; simp only [Prod.mk.injEq] at q ⊢; omega), tf0.trans (by rw [ta1, ta4]; rfl)⟩ (by decide) (by decide) dX4_init_23

set_option maxHeartbeats 4000000 in
set_option maxRecDepth 100000 in
theorem m_X3_init {l : Launch} {D : va_G} {tc : TC} {dz : Nat} {ad : KN → Nat} {Ks : List KN} {st : KN → va_E} (hs : st (20, 0, 0, 0) = .inr (4, [.int 0, .null, .null, .null, .null, .null])) (hk : (20, 0, 0, 0) ∈ Ks) (hf : ∀ k2, nwJ k2 → k2 ∉ Ks) : GV l yX3_init cX3_init 1 1 5 2560 D tc dz ad Ks st [.ref (ad (20, 0, 0, 0))] (Made LK tc dz ad Ks st (20, 0, 0, 0) nwJ) := by
  intro sz
  refine x_ofW (by decide +kernel) (Nat.le_of_ble_eq_true rfl) (fun pp ee s mm bel meth cd ls X hr hin hz h hl => ?_)
  subst hz
  obtain ⟨hx, hb, hmaxL, hown, hts⟩ := id X.1
  obtain ⟨a0, ta0⟩ : ∃ a0, a0 = ad (20, 0, 0, 0) := ⟨_, rfl⟩
  have hl : lv_has ls 1 [(0, .ref a0)] := by rw [ta0]; exact hl
  have tm0 := hk
  have tf0 := hs
  have w : WF LK tc dz ad Ks st (20, 0, 0, 0) (fun _ => False) (fun _ => False) (ad, Ks, st) := WF.start
  refine lv_aload_n hx hb dX3_init_0 rfl (lv_at hl 0 rfl) ?_
  refine g_objInit X hl.1 q168 dX3_init_1 (by decide) (by decide) ?_
  refine lv_aload_n hx hb dX3_init_4 rfl (lv_at hl 0 rfl) ?_
  refine lv_sipush (v := nI 512) hx hb dX3_init_5 (by decide) ?_
  refine r_newI X h (k := (21, 0, 0, 0)) (w.fresh (by simp) (hf (21, 0, 0, 0) (by simp [nwJ]))) (n := 512) (by decide) (by decide) (by decide) (by decide) dX3_init_8 (fun ad1 H a1 ta1 hn h => ?_)
  obtain ⟨Ks1, st1, h, tm1, tf1, kp, w⟩ := w_step h w (by simp) (hf (21, 0, 0, 0) (by simp [nwJ])) (by simp [LK]) hn
  have tf0 := ((kp _ tm0).2.2).trans tf0
  have ta0 := ta0.trans (kp _ tm0).1.symm
  have tm0 := (kp _ tm0).2.1
  have w := w.addT (Or.inl rfl) (tf1.trans rfl) (fun k2 q => absurd q id)
  refine r_putF X h hin ta0 tm0 tf0 rfl inX3 tyX3_ok nmX3 1 (by decide) q170 rfl rfl rfl rfl rfl (Nat.le_of_ble_eq_true rfl) dX3_init_10 (fun H locs h => ?_)
  obtain ⟨st2, h, tf0, kn, w⟩ := w_put h w (by simp) (fun _ => rfl)
  have tf0 : st2 (20, 0, 0, 0) = .inr (4, [.int 0, .ref a1, .null, .null, .null, .null]) := tf0
  refine lv_aload_n hx hb dX3_init_13 rfl (lv_at hl 0 rfl) ?_
  refine lv_sipush (v := nI 512) hx hb dX3_init_14 (by decide) ?_
  refine r_newI X h (k := (22, 0, 0, 0)) (w.fresh (by simp) (hf (22, 0, 0, 0) (by simp [nwJ]))) (n := 512) (by decide) (by decide) (by decide) (by decide) dX3_init_17 (fun ad3 H a3 ta3 hn h => ?_)
  obtain ⟨Ks3, st3, h, tm3, tf3, kp, w⟩ := w_step h w (by simp) (hf (22, 0, 0, 0) (by simp [nwJ])) (by simp [LK]) hn
  have tf0 := ((kp _ tm0).2.2).trans tf0
  have ta0 := ta0.trans (kp _ tm0).1.symm
  have tm0 := (kp _ tm0).2.1
  have ta1 := ta1.trans (kp _ tm1).1.symm
  have tm1 := (kp _ tm1).2.1
  have w := w.addT (Or.inl rfl) (tf3.trans rfl) (fun k2 q => absurd q id)
  refine r_putF X h hin ta0 tm0 tf0 rfl inX3 tyX3_ok nmX3 2 (by decide) q171 rfl rfl rfl rfl rfl (Nat.le_of_ble_eq_true rfl) dX3_init_19 (fun H locs h => ?_)
  obtain ⟨st4, h, tf0, kn, w⟩ := w_put h w (by simp) (fun _ => rfl)
  have tf0 : st4 (20, 0, 0, 0) = .inr (4, [.int 0, .ref a1, .ref a3, .null, .null, .null]) := tf0
  refine lv_aload_n hx hb dX3_init_22 rfl (lv_at hl 0 rfl) ?_
  refine lv_sipush (v := nI 512) hx hb dX3_init_23 (by decide) ?_
  refine r_newI X h (k := (23, 0, 0, 0)) (w.fresh (by simp) (hf (23, 0, 0, 0) (by simp [nwJ]))) (n := 512) (by decide) (by decide) (by decide) (by decide) dX3_init_26 (fun ad5 H a5 ta5 hn h => ?_)
  obtain ⟨Ks5, st5, h, tm5, tf5, kp, w⟩ := w_step h w (by simp) (hf (23, 0, 0, 0) (by simp [nwJ])) (by simp [LK]) hn
  have tf0 := ((kp _ tm0).2.2).trans tf0
  have ta0 := ta0.trans (kp _ tm0).1.symm
  have tm0 := (kp _ tm0).2.1
  have ta1 := ta1.trans (kp _ tm1).1.symm
  have tm1 := (kp _ tm1).2.1
  have ta3 := ta3.trans (kp _ tm3).1.symm
  have tm3 := (kp _ tm3).2.1
  have w := w.addT (Or.inl rfl) (tf5.trans rfl) (fun k2 q => absurd q id)
  refine r_putF X h hin ta0 tm0 tf0 rfl inX3 tyX3_ok nmX3 3 (by decide) q172 rfl rfl rfl rfl rfl (Nat.le_of_ble_eq_true rfl) dX3_init_28 (fun H locs h => ?_)
  obtain ⟨st6, h, tf0, kn, w⟩ := w_put h w (by simp) (fun _ => rfl)
  have tf0 : st6 (20, 0, 0, 0) = .inr (4, [.int 0, .ref a1, .ref a3, .ref a5, .null, .null]) := tf0
  refine lv_aload_n hx hb dX3_init_31 rfl (lv_at hl 0 rfl) ?_
  refine lv_sipush (v := nI 512) hx hb dX3_init_32 (by decide) ?_
  refine r_newI X h (k := (24, 0, 0, 0)) (w.fresh (by simp) (hf (24, 0, 0, 0) (by simp [nwJ]))) (n := 512) (by decide) (by decide) (by decide) (by decide) dX3_init_35 (fun ad7 H a7 ta7 hn h => ?_)
  obtain ⟨Ks7, st7, h, tm7, tf7, kp, w⟩ := w_step h w (by simp) (hf (24, 0, 0, 0) (by simp [nwJ])) (by simp [LK]) hn
  have tf0 := ((kp _ tm0).2.2).trans tf0
  have ta0 := ta0.trans (kp _ tm0).1.symm
  have tm0 := (kp _ tm0).2.1
  have ta1 := ta1.trans (kp _ tm1).1.symm
  have tm1 := (kp _ tm1).2.1
  have ta3 := ta3.trans (kp _ tm3).1.symm
  have tm3 := (kp _ tm3).2.1
  have ta5 := ta5.trans (kp _ tm5).1.symm
  have tm5 := (kp _ tm5).2.1
  have w := w.addT (Or.inl rfl) (tf7.trans rfl) (fun k2 q => absurd q id)
  refine r_putF X h hin ta0 tm0 tf0 rfl inX3 tyX3_ok nmX3 4 (by decide) q173 rfl rfl rfl rfl rfl (Nat.le_of_ble_eq_true rfl) dX3_init_37 (fun H locs h => ?_)
  obtain ⟨st8, h, tf0, kn, w⟩ := w_put h w (by simp) (fun _ => rfl)
  have tf0 : st8 (20, 0, 0, 0) = .inr (4, [.int 0, .ref a1, .ref a3, .ref a5, .ref a7, .null]) := tf0
  refine lv_aload_n hx hb dX3_init_40 rfl (lv_at hl 0 rfl) ?_
  refine lv_sipush (v := nI 512) hx hb dX3_init_41 (by decide) ?_
  refine r_newI X h (k := (25, 0, 0, 0)) (w.fresh (by simp) (hf (25, 0, 0, 0) (by simp [nwJ]))) (n := 512) (by decide) (by decide) (by decide) (by decide) dX3_init_44 (fun ad9 H a9 ta9 hn h => ?_)
  obtain ⟨Ks9, st9, h, tm9, tf9, kp, w⟩ := w_step h w (by simp) (hf (25, 0, 0, 0) (by simp [nwJ])) (by simp [LK]) hn
  have tf0 := ((kp _ tm0).2.2).trans tf0
  have ta0 := ta0.trans (kp _ tm0).1.symm
  have tm0 := (kp _ tm0).2.1
  have ta1 := ta1.trans (kp _ tm1).1.symm
  have tm1 := (kp _ tm1).2.1
  have ta3 := ta3.trans (kp _ tm3).1.symm
  have tm3 := (kp _ tm3).2.1
  have ta5 := ta5.trans (kp _ tm5).1.symm
  have tm5 := (kp _ tm5).2.1
  have ta7 := ta7.trans (kp _ tm7).1.symm
  have tm7 := (kp _ tm7).2.1
  have w := w.addT (Or.inl rfl) (tf9.trans rfl) (fun k2 q => absurd q id)
  refine r_putF X h hin ta0 tm0 tf0 rfl inX3 tyX3_ok nmX3 5 (by decide) q174 rfl rfl rfl rfl rfl (Nat.le_of_ble_eq_true rfl) dX3_init_46 (fun H locs h => ?_)
  obtain ⟨st10, h, tf0, kn, w⟩ := w_put h w (by simp) (fun _ => rfl)
  have tf0 : st10 (20, 0, 0, 0) = .inr (4, [.int 0, .ref a1, .ref a3, .ref a5, .ref a7, .ref a9]) := tf0
  refine g_vret X h hr ⟨w.imp (fun k2 => by unfold nwJ; obtain ⟨n2, b2, e2, d2⟩ := k2; simp only [Prod.mk.injEq, or_false]; clear w; (constructor <;> intro q <;> omega)) (fun k2 q => by unfold nwJ at q; obtain ⟨n2, b2, e2, d2⟩ := k2; simp only [Prod.mk.injEq] at q ⊢; omega), tf0.trans (by rw [ta1, ta3, ta5, ta7, ta9]; rfl)⟩ (by decide) (by decide) dX3_init_49
