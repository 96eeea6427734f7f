def nwA (k : KN) : Prop := nwJ k ∨ k = (20, 0, 0, 0) ∨ nwBi 1 10 k ∨ k = (1, 1, 0, 0) ∨ nwBi 0 10 k ∨ k = (1, 0, 0, 0) ∨ False
set_option maxHeartbeats 4000000 in
set_option maxRecDepth 100000 in
theorem m_X6_init {l : Launch} {D : va_G} {tc : TC} {dz : Nat} {ad : KN → Nat} {Ks : List KN} {st : KN → va_E} (hs : st (0, 0, 0, 0) = .inr (7, [.null, .null, .null])) (hk : (0, 0, 0, 0) ∈ Ks) (hf : ∀ k2, nwA k2 → k2 ∉ Ks) : GV l yX6_init cX6_init 1 6 932 15426 D tc dz ad Ks st [.ref (ad (0, 0, 0, 0))] (Made LK tc dz ad Ks st (0, 0, 0, 0) nwA) := by
  intro sz
  refine x_ofW (by decide +kernel) (Nat.le_of_ble_eq_true rfl) (fun pp ee s mm bel meth cd ls X hr hin hz h hl => ?_)
  subst hz
  obtain ⟨hx, hb, hmaxL, hown, hts⟩ := id X.1
  obtain ⟨a0, ta0⟩ : ∃ a0, a0 = ad (0, 0, 0, 0) := ⟨_, rfl⟩
  have hl : lv_has ls 1 [(0, .ref a0)] := by rw [ta0]; exact hl
  have tm0 := hk
  have tf0 := hs
  have w : WF LK tc dz ad Ks st (0, 0, 0, 0) (fun _ => False) (fun _ => False) (ad, Ks, st) := WF.start
  refine lv_aload_n hx hb dX6_init_0 rfl (lv_at hl 0 rfl) ?_
  refine g_objInit X hl.1 q34 dX6_init_1 (by decide) (by decide) ?_
  refine lv_aload_n hx hb dX6_init_4 rfl (lv_at hl 0 rfl) ?_
  refine r_new X h (k := (1, 0, 0, 0)) (w.fresh (by simp [nwBi, nwJ]) (hf (1, 0, 0, 0) (by simp [nwA]))) (ci := 1) (fs := [.int 0, .int 0, .null, .null]) rfl inX0 tyX0_ok q37 q38 q7 dfX0 (by decide) (by decide) dX6_init_5 (fun ad1 H a1 ta1 hn h => ?_)
  obtain ⟨Ks1, st1, h, tm1, tf1, kp, w⟩ := w_step h w (by simp [nwBi, nwJ]) (hf (1, 0, 0, 0) (by simp [nwA])) (by simp [LK]) hn
  have tf0 := ((kp _ tm0).2.2).trans tf0
  have ta0 := ta0.trans (kp _ tm0).1.symm
  have tm0 := (kp _ tm0).2.1
  refine lv_dup hx hb dX6_init_8 rfl ?_
  have hfr : ∀ k2, (nwBi 0 10) k2 → k2 ∉ Ks1 := fun k2 z => w.fresh (by obtain ⟨n2, b2, e2, d2⟩ := k2; simp only [nwBi, nwJ, Prod.mk.injEq, or_false, false_or] at z ⊢; omega) (hf k2 (Or.inr (Or.inr (Or.inr (Or.inr (Or.inl z))))))
  refine g_doneV X h (g_runI X h (b := a1) (by rw [ta1]; exact m_X0_init 0 tf1 tm1 hfr _) F_X0_init q39 q40 rfl rfl (by decide) (by decide) ⟨by decide, by decide⟩ hl.1 (Nat.le_of_ble_eq_true rfl) dX6_init_9 rfl) (fun u H locs hP h => ?_)
  obtain ⟨ad2, Ks2, st2⟩ := u
  have h : Sx D (wA ad Ks s.heap.size) ad2 Ks2 st2 s H locs := h
  have kp := w_sub hP hfr
  have w := w.sub (by simp) (by simp [nwBi, nwJ]) hP (fun k2 z => ⟨by obtain ⟨n2, b2, e2, d2⟩ := k2; simp only [nwBi, nwJ, Prod.mk.injEq, or_false, false_or] at z ⊢; omega, hf k2 (Or.inr (Or.inr (Or.inr (Or.inr (Or.inl z))))), by obtain ⟨n2, b2, e2, d2⟩ := k2; simp only [nwBi, LK] at z ⊢; omega⟩) (fun k2 z => Or.inl (by rcases z with rfl | rfl <;> simp [nwBi])) (hf (1, 0, 0, 0) (by simp [nwA]))
  have ta1 := ta1.trans (kp _ tm1).1.symm
  have tm1 := (kp _ tm1).2.1
  have tf0 := ((kp _ tm0).2.2 (nek (by decide))).trans tf0
  have ta0 := ta0.trans (kp _ tm0).1.symm
  have tm0 := (kp _ tm0).2.1
  refine r_putF X h hin ta0 tm0 tf0 rfl inX6 tyX6_ok nmX6 0 (by decide) q188 rfl rfl rfl rfl rfl (Nat.le_of_ble_eq_true rfl) dX6_init_12 (fun H locs h => ?_)
  obtain ⟨st3, h, tf0, kn, w⟩ := w_put h w (by simp [nwBi, nwJ]) (fun _ => rfl)
  have tf0 : st3 (0, 0, 0, 0) = .inr (7, [.ref a1, .null, .null]) := tf0
  refine lv_aload_n hx hb dX6_init_15 rfl (lv_at hl 0 rfl) ?_
  refine r_new X h (k := (1, 1, 0, 0)) (w.fresh (by simp [nwBi, nwJ]) (hf (1, 1, 0, 0) (by simp [nwA]))) (ci := 1) (fs := [.int 0, .int 0, .null, .null]) rfl inX0 tyX0_ok q37 q38 q7 dfX0 (by decide) (by decide) dX6_init_16 (fun ad4 H a4 ta4 hn h => ?_)
  obtain ⟨Ks4, st4, h, tm4, tf4, kp, w⟩ := w_step h w (by simp [nwBi, nwJ]) (hf (1, 1, 0, 0) (by simp [nwA])) (by simp [LK]) hn
  have tf0 := ((kp _ tm0).2.2).trans tf0
  have ta0 := ta0.trans (kp _ tm0).1.symm
  have tm0 := (kp _ tm0).2.1
  have ta1 := ta1.trans (kp _ tm1).1.symm
  have tm1 := (kp _ tm1).2.1
  refine lv_dup hx hb dX6_init_19 rfl ?_
  have hfr : ∀ k2, (nwBi 1 10) k2 → k2 ∉ Ks4 := fun k2 z => w.fresh (by obtain ⟨n2, b2, e2, d2⟩ := k2; simp only [nwBi, nwJ, Prod.mk.injEq, or_false, false_or] at z ⊢; omega) (hf k2 (Or.inr (Or.inr (Or.inl z))))
  refine g_doneV X h (g_runI X h (b := a4) (by rw [ta4]; exact m_X0_init 1 tf4 tm4 hfr _) F_X0_init q39 q40 rfl rfl (by decide) (by decide) ⟨by decide, by decide⟩ hl.1 (Nat.le_of_ble_eq_true rfl) dX6_init_20 rfl) (fun u H locs hP h => ?_)
  obtain ⟨ad5, Ks5, st5⟩ := u
  have h : Sx D (wA ad Ks s.heap.size) ad5 Ks5 st5 s H locs := h
  have kp := w_sub hP hfr
  have w := w.sub (by simp) (by simp [nwBi, nwJ]) hP (fun k2 z => ⟨by obtain ⟨n2, b2, e2, d2⟩ := k2; simp only [nwBi, nwJ, Prod.mk.injEq, or_false, false_or] at z ⊢; omega, hf k2 (Or.inr (Or.inr (Or.inl z))), by obtain ⟨n2, b2, e2, d2⟩ := k2; simp only [nwBi, LK] at z ⊢; omega⟩) (fun k2 z => Or.inl (by rcases z with rfl | rfl <;> simp [nwBi])) (hf (1, 1, 0, 0) (by simp [nwA]))
  have ta4 := ta4.trans (kp _ tm4).1.symm
  have tm4 := (kp _ tm4).2.1
  have tf0 := ((kp _ tm0).2.2 (nek (by decide))).trans tf0
  have ta0 := ta0.trans (kp _ tm0).1.symm
  have tm0 := (kp _ tm0).2.1
  have ta1 := ta1.trans (kp _ tm1).1.symm
  have tm1 := (kp _ tm1).2.1
  refine r_putF X h hin ta0 tm0 tf0 rfl inX6 tyX6_ok nmX6 1 (by decide) q189 rfl rfl rfl rfl rfl (Nat.le_of_ble_eq_true rfl) dX6_init_23 (fun H locs h => ?_)
  obtain ⟨st6, h, tf0, kn, w⟩ := w_put h w (by simp [nwBi, nwJ]) (fun _ => rfl)
  have tf0 : st6 (0, 0, 0, 0) = .inr (7, [.ref a1, .ref a4, .null]) := tf0
  refine lv_aload_n hx hb dX6_init_26 rfl (lv_at hl 0 rfl) ?_
  refine r_new X h (k := (20, 0, 0, 0)) (w.fresh (by simp [nwBi, nwJ]) (hf (20, 0, 0, 0) (by simp [nwA]))) (ci := 4) (fs := [.int 0, .null, .null, .null, .null, .null]) rfl inX3 tyX3_ok q163 q164 q14 dfX3 (by decide) (by decide) dX6_init_27 (fun ad7 H a7 ta7 hn h => ?_)
  obtain ⟨Ks7, st7, h, tm7, tf7, kp, w⟩ := w_step h w (by simp [nwBi, nwJ]) (hf (20, 0, 0, 0) (by simp [nwA])) (by simp [LK]) hn
  have tf0 := ((kp _ tm0).2.2).trans tf0
  have ta0 := ta0.trans (kp _ tm0).1.symm
  have tm0 := (kp _ tm0).2.1
  have ta1 := ta1.trans (kp _ tm1).1.symm
  have tm1 := (kp _ tm1).2.1
  have ta4 := ta4.trans (kp _ tm4).1.symm
  have tm4 := (kp _ tm4).2.1
  refine lv_dup hx hb dX6_init_30 rfl ?_
  have hfr : ∀ k2, nwJ k2 → k2 ∉ Ks7 := fun k2 z => w.fresh (by obtain ⟨n2, b2, e2, d2⟩ := k2; simp only [nwBi, nwJ, Prod.mk.injEq, or_false, false_or] at z ⊢; omega) (hf k2 (Or.inl z))
  refine g_doneV X h (g_runIN X h (b := a7) (by rw [ta7]; exact m_X3_init tf7 tm7 hfr _) F_X3_init t165 q166 rfl rfl (by decide) (by decide) ⟨by decide, by decide⟩ hl.1 (Nat.le_of_ble_eq_true rfl) dX6_init_31 rfl) (fun u H locs hP h => ?_)
  obtain ⟨ad8, Ks8, st8⟩ := u
  have h : Sx D (wA ad Ks s.heap.size) ad8 Ks8 st8 s H locs := h
  have kp := w_sub hP hfr
  have w := w.sub (by simp) (by simp [nwBi, nwJ]) hP (fun k2 z => ⟨by obtain ⟨n2, b2, e2, d2⟩ := k2; simp only [nwBi, nwJ, Prod.mk.injEq, or_false, false_or] at z ⊢; omega, hf k2 (Or.inl z), by obtain ⟨n2, b2, e2, d2⟩ := k2; simp only [nwJ, LK] at z ⊢; omega⟩) (fun k2 z => Or.inl (by rcases z with rfl | rfl | rfl | rfl | rfl <;> simp [nwJ])) (hf (20, 0, 0, 0) (by simp [nwA]))
  have ta7 := ta7.trans (kp _ tm7).1.symm
  have tm7 := (kp _ tm7).2.1
  have tf0 := ((kp _ tm0).2.2 (nek (by decide))).trans tf0
  have ta0 := ta0.trans (kp _ tm0).1.symm
  have tm0 := (kp _ tm0).2.1
  have ta1 := ta1.trans (kp _ tm1).1.symm
  have tm1 := (kp _ tm1).2.1
  have ta4 := ta4.trans (kp _ tm4).1.symm
  have tm4 := (kp _ tm4).2.1
  refine r_putF X h hin ta0 tm0 tf0 rfl inX6 tyX6_ok nmX6 2 (by decide) q190 rfl rfl rfl rfl rfl (Nat.le_of_ble_eq_true rfl) dX6_init_34 (fun H locs h => ?_)
  obtain ⟨st9, h, tf0, kn, w⟩ := w_put h w (by simp [nwBi, nwJ]) (fun _ => rfl)
  have tf0 : st9 (0, 0, 0, 0) = .inr (7, [.ref a1, .ref a4, .ref a7]) := tf0
  refine g_vret X h hr ⟨w.imp (fun k2 => by exact Iff.rfl) (fun k2 q => by rcases q with q | q | q | q | q | q | q <;> simp [q]), tf0.trans (by rw [ta1, ta4, ta7]; rfl)⟩ (by decide) (by decide) dX6_init_37
