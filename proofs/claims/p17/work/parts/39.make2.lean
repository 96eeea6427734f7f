theorem g_loop {p : Program} {l : Launch} {e : Env} {R : Room} {s : State} {m : MethodId} {args : Array Value} {below : List Frame} {meth : Method} {c : Code} {H : Heap} {locs : List Loc} {Q : State → Prop} {nL : Nat} {D : va_G} {A : Nat → Prop} {pc : Nat} {ls : Array Slot} {σ : Type} (uF : σ → WS) (lvF : σ → List (Nat × Value)) (cF sF : σ → Nat) (ok : σ → Prop) (μ : σ → Nat)
    (step : ∀ x, ok x → (∀ x', ok x' → μ x' < μ x → ∀ (H : Heap) (locs : List Loc) (ls : Array Slot), Sx D A (uF x').1 (uF x').2.1 (uF x').2.2 s H locs → lv_has ls nL (lvF x') → W p l e R s m args below meth c H locs (cF x') (sF x') Q (F0 m pc ls [])) → ∀ (H : Heap) (locs : List Loc) (ls : Array Slot), Sx D A (uF x).1 (uF x).2.1 (uF x).2.2 s H locs → lv_has ls nL (lvF x) → W p l e R s m args below meth c H locs (cF x) (sF x) Q (F0 m pc ls []))
    (x : σ) (h0 : ok x) (h : Sx D A (uF x).1 (uF x).2.1 (uF x).2.2 s H locs) (hl : lv_has ls nL (lvF x)) : W p l e R s m args below meth c H locs (cF x) (sF x) Q (F0 m pc ls []) := by
  have key : ∀ n x, μ x < n → ok x → ∀ (H : Heap) (locs : List Loc) (ls : Array Slot), Sx D A (uF x).1 (uF x).2.1 (uF x).2.2 s H locs → lv_has ls nL (lvF x) → W p l e R s m args below meth c H locs (cF x) (sF x) Q (F0 m pc ls []) := by
    intro n
    induction n with
    | zero => intro x hx; omega
    | succ n ih => intro x hx hok; exact step x hok (fun x' hok' hlt => ih x' (by omega) hok')
  exact key (μ x + 1) x (Nat.lt_succ_self _) h0 H locs ls h hl
theorem arrq_ext {cA : ClassId} {n : Nat} {f g : Nat → Option Nat} (h : ∀ c, c < n → f c = g c) : vp_cell cA (n, .inr (.inr (.inr (.inr f)))) = vp_cell cA (n, .inr (.inr (.inr (.inr g)))) := by
  rw [vp_cell_q, vp_cell_q]
  unfold arrV
  congr 1
  apply congrArg
  funext j
  show va_rf (f j.val) = va_rf (g j.val)
  rw [h j.val j.isLt]
theorem Sx.arrq {D : va_G} {A : Nat → Prop} {ad : KN → Nat} {Ks : List KN} {st : KN → va_E} {k : KN} {cA : ClassId} {n : Nat} {f g : Nat → Option Nat} {s : State} {H : Heap} {locs : List Loc} (h : Sx D A ad Ks st s H locs) (he : st k = .inl (cA, n, .inr (.inr (.inr (.inr f))))) (hfg : ∀ c, c < n → f c = g c) : Sx D A ad Ks (sset st k (.inl (cA, n, .inr (.inr (.inr (.inr g)))))) s H locs := by
  refine ⟨fun k2 hk2 => ?_, h.2⟩
  have h1 := h.1 k2 hk2
  by_cases hk : k2 = k
  · subst hk
    rw [he] at h1
    rw [sset_eq]
    exact Eq.trans (b := some (vp_cell cA (n, .inr (.inr (.inr (.inr f)))))) h1 (congrArg some (arrq_ext hfg))
  · rw [sset_ne _ _ hk]
    exact h1
set_option maxHeartbeats 4000000 in
set_option maxRecDepth 100000 in
theorem m_Jxa1e45_init {l : Launch} {D : va_G} {tc : TC} {dz : Nat} {ad : KN → Nat} {Ks : List KN} {st : KN → va_E} (k : KN) : GV l yJxa1e45_init_da8c8 cJxa1e45_init_da8c8 1 1 0 0 D tc dz ad Ks st [.ref (ad k)] (fun u => u = (ad, Ks, st)) := by
  intro sz
  refine x_ofW (by decide +kernel) (Nat.le_of_ble_eq_true rfl) (fun pp ee s mm bel meth cd ls X hr hin hz h hl => ?_)
  subst hz
  obtain ⟨hx, hb, hmaxL, hown, hts⟩ := id X.1
  have hl : lv_has ls 1 [(0, .ref (ad k))] := hl
  refine lv_aload_n hx hb dJxa1e45_init_da8c8_0 rfl (lv_at hl 0 rfl) ?_
  refine g_objInit X hl.1 q63 dJxa1e45_init_da8c8_1 (by decide) (by decide) ?_
  exact g_vret X h hr rfl (by decide) (by decide) dJxa1e45_init_da8c8_4
set_option maxHeartbeats 4000000 in
set_option maxRecDepth 100000 in
theorem m_Jxc12de_init {l : Launch} {D : va_G} {tc : TC} {dz : Nat} {ad : KN → Nat} {Ks : List KN} {st : KN → va_E} (k : KN) {v1 v2 : Value} (hs : st k = .inr (0, [.int 0, v1, v2])) (hk : k ∈ Ks) : GV l yJxc12de_init_da8c8 cJxc12de_init_da8c8 1 2 0 0 D tc dz ad Ks st [.ref (ad k)] (fun u => u = (ad, Ks, st)) := by
  intro sz
  refine x_ofW (by decide +kernel) (Nat.le_of_ble_eq_true rfl) (fun pp ee s mm bel meth cd ls X hr hin hz h hl => ?_)
  subst hz
  obtain ⟨hx, hb, hmaxL, hown, hts⟩ := id X.1
  have hl : lv_has ls 1 [(0, .ref (ad k))] := hl
  refine lv_aload_n hx hb dJxc12de_init_da8c8_0 rfl (lv_at hl 0 rfl) ?_
  refine g_doneV X h (g_runI X h (m_Jxa1e45_init k _) F_Jxa1e45_init_da8c8 q60 q61 rfl rfl (by decide) (by decide) ⟨by decide, by decide⟩ hl.1 (Nat.le_of_ble_eq_true rfl) dJxc12de_init_da8c8_1 rfl) (fun u H locs hP h => ?_)
  subst hP
  refine lv_aload_n hx hb dJxc12de_init_da8c8_4 rfl (lv_at hl 0 rfl) ?_
  refine lv_iconst (v := nI 0) hx hb dJxc12de_init_da8c8_5 (by decide) ?_
  refine r_put X h rfl hk hs rfl inJx4a65c tyJx4a65c_ok nmJx4a65c 0 (by decide) q68 rfl rfl rfl rfl (Nat.le_of_ble_eq_true rfl) dJxc12de_init_da8c8_6 (fun H locs h => ?_)
  have e0 : sset st k (.inr (0, [Value.int 0, v1, v2].set 0 (.int (nI 0)))) = st := by
    rw [show (Sum.inr (0, [Value.int 0, v1, v2].set 0 (.int (nI 0))) : va_E) = st k from hs.symm]
    exact sset_id st k
  rw [e0] at h
  exact g_vret X h hr rfl (by decide) (by decide) dJxc12de_init_da8c8_9
set_option maxHeartbeats 4000000 in
set_option maxRecDepth 100000 in
theorem m_Jx4a65c_init {l : Launch} {D : va_G} {tc : TC} {dz : Nat} {ad : KN → Nat} {Ks : List KN} {st : KN → va_E} {L : KN → Prop} (b e : Nat) (hs : st (7, b, e, 0) = .inr (0, [.int 0, .null, .int 0])) (hk : (7, b, e, 0) ∈ Ks) : GV l yJx4a65c_init_da8c8 cJx4a65c_init_da8c8 1 3 0 0 D tc dz ad Ks st [.ref (ad (7, b, e, 0))] (Made L tc dz ad Ks st (7, b, e, 0) (fun _ => False)) := by
  intro sz
  refine x_ofW (by decide +kernel) (Nat.le_of_ble_eq_true rfl) (fun pp ee s mm bel meth cd ls X hr hin hz h hl => ?_)
  subst hz
  obtain ⟨hx, hb, hmaxL, hown, hts⟩ := id X.1
  have hl : lv_has ls 1 [(0, .ref (ad (7, b, e, 0)))] := hl
  refine lv_aload_n hx hb dJx4a65c_init_da8c8_0 rfl (lv_at hl 0 rfl) ?_
  refine g_doneV X h (g_runI X h (m_Jxc12de_init (7, b, e, 0) hs hk _) F_Jxc12de_init_da8c8 q57 q58 rfl rfl (by decide) (by decide) ⟨by decide, by decide⟩ hl.1 (Nat.le_of_ble_eq_true rfl) dJx4a65c_init_da8c8_1 rfl) (fun u H locs hP h => ?_)
  subst hP
  refine lv_aload_n hx hb dJx4a65c_init_da8c8_4 rfl (lv_at hl 0 rfl) ?_
  refine va_gets hx hb X.2.2.2.2.1.2.2.1 h.2.2 hown (hts _ q64) (fun _ h => h) dJx4a65c_init_da8c8_5 ?_
  refine r_put X h rfl hk hs rfl inJx4a65c tyJx4a65c_ok nmJx4a65c 1 (by decide) q66 rfl rfl rfl rfl (Nat.le_of_ble_eq_true rfl) dJx4a65c_init_da8c8_8 (fun H locs h => ?_)
  refine g_vret X h hr ⟨⟨fun _ _ => rfl, fun _ => ⟨Or.inr, fun q => q.elim False.elim id⟩, fun k2 _ q => sset_ne _ _ q, fun _ q => q.elim⟩, sset_eq _ _ _⟩ (by decide) (by decide) dJx4a65c_init_da8c8_11
def nwEi (b e i : Nat) (k : KN) : Prop := k.2.1 = b ∧ k.2.2.1 = e ∧ ((5 ≤ k.1 ∧ k.1 ≤ 7 ∧ k.2.2.2 = 0) ∨ (9 ≤ k.1 ∧ k.1 ≤ 15 ∧ k.2.2.2 < i))
def EIv (tc : TC) (dz : Nat) (b e i : Nat) (ad0 : KN → Nat) (Ks0 : List KN) (st0 : KN → va_E) (a5 a6 a7 : Nat) (u : WS) : Prop :=
  WF LK tc dz ad0 Ks0 st0 (4, b, e, 0) (nwEi b e i) (fun k => nwEi b e i k ∧ k.1 ≠ 6) u ∧ u.2.2 (4, b, e, 0) = .inr (3, [.int 0, .int 0, .ref a5, .ref a6, .ref a7]) ∧ a5 = u.1 (5, b, e, 0) ∧ a6 = u.1 (6, b, e, 0) ∧ a7 = u.1 (7, b, e, 0) ∧
  u.2.2 (6, b, e, 0) = .inl (tc 5, 6, .inr (.inr (.inr (.inr (fun d => if d < i then some (u.1 (9, b, e, d)) else none)))))
def nwBi (b i : Nat) (k : KN) : Prop := k.2.1 = b ∧ ((2 ≤ k.1 ∧ k.1 ≤ 3 ∧ k.2.2.1 = 0 ∧ k.2.2.2 = 0) ∨ (k.2.2.1 < i ∧ ((k.1 = 4 ∧ k.2.2.2 = 0) ∨ (5 ≤ k.1 ∧ k.1 ≤ 7 ∧ k.2.2.2 = 0) ∨ (9 ≤ k.1 ∧ k.1 ≤ 15 ∧ k.2.2.2 < 6))))
def BIv (tc : TC) (dz : Nat) (b i : Nat) (ad0 : KN → Nat) (Ks0 : List KN) (st0 : KN → va_E) (a2 a3 : Nat) (u : WS) : Prop :=
  WF LK tc dz ad0 Ks0 st0 (1, b, 0, 0) (nwBi b i) (fun k => nwBi b i k ∧ k.1 ≠ 3) u ∧ u.2.2 (1, b, 0, 0) = .inr (1, [.int 0, .int 0, .ref a2, .ref a3]) ∧ a2 = u.1 (2, b, 0, 0) ∧ a3 = u.1 (3, b, 0, 0) ∧
  u.2.2 (3, b, 0, 0) = .inl (tc 4, 10, .inr (.inr (.inr (.inr (fun e => if e < i then some (u.1 (4, b, e, 0)) else none)))))
set_option maxHeartbeats 4000000 in
set_option maxRecDepth 100000 in
theorem m_X2_init {l : Launch} {D : va_G} {tc : TC} {dz : Nat} {ad : KN → Nat} {Ks : List KN} {st : KN → va_E} (b e : Nat) (he : e < 10) (hs : st (4, b, e, 0) = .inr (3, [.int 0, .int 0, .null, .null, .null])) (hk : (4, b, e, 0) ∈ Ks) (hf : ∀ k2, nwEi b e 6 k2 → k2 ∉ Ks) : GV l yX2_init cX2_init 2 4 45 636 D tc dz ad Ks st [.ref (ad (4, b, e, 0))] (Made LK tc dz ad Ks st (4, b, e, 0) (nwEi b e 6)) := by
  intro sz
  refine x_ofW (by decide +kernel) (Nat.le_of_ble_eq_true rfl) (fun pp ee s mm bel meth cd ls X hr hin hz h hl => ?_)
  subst hz
  obtain ⟨hx, hb, hmaxL, hown, hts⟩ := id X.1
  obtain ⟨a0, ta0⟩ : ∃ a0, a0 = ad (4, b, e, 0) := ⟨_, rfl⟩
  have hl : lv_has ls 2 [(0, .ref a0)] := by rw [ta0]; exact hl
  have ta0o := ta0
  have tm0 := hk
  have tf0 := hs
  have w : WF LK tc dz ad Ks st (4, b, e, 0) (fun _ => False) (fun _ => False) (ad, Ks, st) := WF.start
  refine lv_aload_n hx hb dX2_init_0 rfl (lv_at hl 0 rfl) ?_
  refine g_objInit X hl.1 q49 dX2_init_1 (by decide) (by decide) ?_
  refine lv_aload_n hx hb dX2_init_4 rfl (lv_at hl 0 rfl) ?_
  refine lv_iconst (v := nI 3) hx hb dX2_init_5 (by decide) ?_
  refine r_newI X h (k := (5, b, e, 0)) (w.fresh (by simp) (hf (5, b, e, 0) (by simp [nwEi]))) (n := 3) (by decide) (by decide) (by decide) (by decide) dX2_init_6 (fun ad1 H a1 ta1 hn h => ?_)
  obtain ⟨Ks1, st1, h, tm1, tf1, kp, w⟩ := w_step h w (by simp) (hf (5, b, e, 0) (by simp [nwEi])) (by simp [LK]) hn
  have tf0 := ((kp _ tm0).2.2).trans tf0
  have ta0 := ta0.trans (kp _ tm0).1.symm
  have tm0 := (kp _ tm0).2.1
  have w := w.addT (Or.inl rfl) (tf1.trans rfl) (fun k2 q => absurd q id)
  refine r_putF X h hin ta0 tm0 tf0 rfl inX2 tyX2_ok nmX2 2 (by decide) q131 rfl rfl rfl rfl rfl (Nat.le_of_ble_eq_true rfl) dX2_init_8 (fun H locs h => ?_)
  obtain ⟨st2, h, tf0, kn, w⟩ := w_put h w (by simp) (fun _ => rfl)
  have tf0 : st2 (4, b, e, 0) = .inr (3, [.int 0, .int 0, .ref a1, .null, .null]) := tf0
  refine lv_aload_n hx hb dX2_init_11 rfl (lv_at hl 0 rfl) ?_
  refine lv_bipush (v := nI 6) hx hb dX2_init_12 (by decide) ?_
  refine r_newq X h (k := (6, b, e, 0)) (w.fresh (by simp) (hf (6, b, e, 0) (by simp [nwEi]))) (n := 6) (t0 := 5) rfl q50 t51 (by decide) (by decide) (by decide) (by decide) dX2_init_14 (fun ad3 H a3 ta3 hn h => ?_)
  obtain ⟨Ks3, st3, h, tm3, tf3, kp, w⟩ := w_step h w (by simp) (hf (6, b, e, 0) (by simp [nwEi])) (by simp [LK]) hn
  have tf0 := ((kp _ tm0).2.2).trans tf0
  have ta0 := ta0.trans (kp _ tm0).1.symm
  have tm0 := (kp _ tm0).2.1
  have ta1 := ta1.trans (kp _ tm1).1.symm
  have tm1 := (kp _ tm1).2.1
  refine r_putF X h hin ta0 tm0 tf0 rfl inX2 tyX2_ok nmX2 3 (by decide) q133 rfl rfl rfl rfl rfl (Nat.le_of_ble_eq_true rfl) dX2_init_17 (fun H locs h => ?_)
  obtain ⟨st4, h, tf0, kn, w⟩ := w_put h w (by simp) (fun _ => rfl)
  have tf0 : st4 (4, b, e, 0) = .inr (3, [.int 0, .int 0, .ref a1, .ref a3, .null]) := tf0
  have tf3 := (kn _ (nek (by decide))).trans tf3
  refine lv_aload_n hx hb dX2_init_20 rfl (lv_at hl 0 rfl) ?_
  refine r_new X h (k := (7, b, e, 0)) (w.fresh (by simp) (hf (7, b, e, 0) (by simp [nwEi]))) (ci := 0) (fs := [.int 0, .null, .int 0]) rfl inJx4a65c tyJx4a65c_ok q52 q53 q11 dfJx4a65c (by decide) (by decide) dX2_init_21 (fun ad5 H a5 ta5 hn h => ?_)
  obtain ⟨Ks5, st5, h, tm5, tf5, kp, w⟩ := w_step h w (by simp) (hf (7, b, e, 0) (by simp [nwEi])) (by simp [LK]) hn
  have tf0 := ((kp _ tm0).2.2).trans tf0
  have ta0 := ta0.trans (kp _ tm0).1.symm
  have tm0 := (kp _ tm0).2.1
  have tf3 := ((kp _ tm3).2.2).trans tf3
  have ta3 := ta3.trans (kp _ tm3).1.symm
  have tm3 := (kp _ tm3).2.1
  have ta1 := ta1.trans (kp _ tm1).1.symm
  have tm1 := (kp _ tm1).2.1
  refine lv_dup hx hb dX2_init_24 rfl ?_
  have hfr : ∀ k2, (fun _ => False) k2 → k2 ∉ Ks5 := fun k2 z => z.elim
  refine g_doneV X h (g_runI X h (b := a5) (by rw [ta5]; exact m_Jx4a65c_init (L := LK) b e tf5 tm5 _) F_Jx4a65c_init_da8c8 q54 q55 rfl rfl (by decide) (by decide) ⟨by decide, by decide⟩ hl.1 (Nat.le_of_ble_eq_true rfl) dX2_init_25 rfl) (fun u H locs hP h => ?_)
  obtain ⟨ad6, Ks6, st6⟩ := u
  have h : Sx D (wA ad Ks s.heap.size) ad6 Ks6 st6 s H locs := h
  have kp := w_sub hP hfr
  have w := w.sub (by simp) (by simp) hP (fun k2 z => z.elim) (fun k2 z => Or.inr (by have := z; exact absurd this id)) (hf (7, b, e, 0) (by simp [nwEi]))
  have ta5 := ta5.trans (kp _ tm5).1.symm
  have tm5 := (kp _ tm5).2.1
  have tf0 := ((kp _ tm0).2.2 (nek (by decide))).trans tf0
  have ta0 := ta0.trans (kp _ tm0).1.symm
  have tm0 := (kp _ tm0).2.1
  have tf3 := ((kp _ tm3).2.2 (nek (by decide))).trans tf3
  have ta3 := ta3.trans (kp _ tm3).1.symm
  have tm3 := (kp _ tm3).2.1
  have ta1 := ta1.trans (kp _ tm1).1.symm
  have tm1 := (kp _ tm1).2.1
  refine r_putF X h hin ta0 tm0 tf0 rfl inX2 tyX2_ok nmX2 4 (by decide) q136 rfl rfl rfl rfl rfl (Nat.le_of_ble_eq_true rfl) dX2_init_28 (fun H locs h => ?_)
  obtain ⟨st7, h, tf0, kn, w⟩ := w_put h w (by simp) (fun _ => rfl)
  have tf0 : st7 (4, b, e, 0) = .inr (3, [.int 0, .int 0, .ref a1, .ref a3, .ref a5]) := tf0
  have tf3 := (kn _ (nek (by decide))).trans tf3
  refine lv_iconst (v := nI 0) hx hb dX2_init_31 (by decide) ?_
  refine lv_istore_n (lv' := [(1, .int (nI 0)), (0, .ref a0)]) hx hb dX2_init_32 rfl hl (by decide) rfl (fun ls hl => ?_)
  refine W.widen (k := 3 + 7 * 0) (n := 12 + 104 * 0) (by decide) (by decide) ?_
  refine g_loop (D := D) (A := wA ad Ks s.heap.size) (nL := 2) (σ := Nat × WS) (fun x => x.2) (fun x => [(1, .int (nI x.1)), (0, .ref a0)]) (fun x => 3 + 7 * x.1) (fun x => 12 + 104 * x.1) (fun x => x.1 ≤ 6 ∧ EIv tc dz b e x.1 ad Ks st a1 a3 a5 x.2) (fun x => 6 - x.1) (fun x hok ih H locs ls h hl => ?_) (0, (ad6, Ks6, st7)) ⟨Nat.zero_le _, w.imp (fun k2 => by unfold nwEi; obtain ⟨n2, b2, e2, d2⟩ := k2; simp only [Prod.mk.injEq, or_false, false_or]; clear w; (constructor <;> intro q <;> omega)) (fun k2 q => by unfold nwEi at q; obtain ⟨n2, b2, e2, d2⟩ := k2; simp only [Prod.mk.injEq, or_false, false_or] at q ⊢; omega), tf0, ta1, ta3, ta5, tf3⟩ h hl
  obtain ⟨i, ad1, Ks1, st1⟩ := x
  obtain ⟨hi, w, tf0, ta5, ta6, ta7, tf6⟩ := hok
  have hi : i ≤ 6 := hi
  have h : Sx D (wA ad Ks s.heap.size) ad1 Ks1 st1 s H locs := h
  have hl : lv_has ls 2 [(1, .int (nI i)), (0, .ref a0)] := hl
  have tm0 : (4, b, e, 0) ∈ Ks1 := (w.2.1 _).mpr (Or.inr hk)
  have ta0 : a0 = ad1 (4, b, e, 0) := ta0o.trans (w.1 _ (by simp [nwEi])).symm
  have tm6 : (6, b, e, 0) ∈ Ks1 := (w.2.1 _).mpr (Or.inl (by simp [nwEi]))
  have tm5 : (5, b, e, 0) ∈ Ks1 := (w.2.1 _).mpr (Or.inl (by simp [nwEi]))
  have tm7 : (7, b, e, 0) ∈ Ks1 := (w.2.1 _).mpr (Or.inl (by simp [nwEi]))
  refine lv_iload_n hx hb dX2_init_33 rfl (lv_at hl 0 rfl) ?_
  refine lv_bipush (v := nI 6) hx hb dX2_init_34 (by decide) ?_
  refine n_icmp_ge (tgt := 58) hx hb (by omega) (by omega) dX2_init_36 (by decide) (fun c36 => ?_) (fun c36 => ?_)
  · obtain rfl : i = 6 := by omega
    have h2 := h.arrq (g := fun d => some (ad1 (9, b, e, d))) tf6 (fun c hc => if_pos hc)
    obtain ⟨st2, h, tf6, kn, w⟩ := w_put h2 w (fun q => q.2 rfl) (fun q => absurd q (hf (6, b, e, 0) (by simp [nwEi])))
    have tf0 := (kn _ (nek (by decide))).trans tf0
    have w := w.addT (k := (6, b, e, 0)) (by simp [nwEi]) tf6 (fun k2 q => by
      obtain ⟨d, rfl⟩ := q
      by_cases hd : d < 6
      · exact Or.inl (by simp [nwEi, hd])
      · exact Or.inr (fun z => hd (z.2 rfl)))
    refine g_vret X h hr ⟨w.imp (fun k2 => Iff.rfl) (fun k2 q => (Decidable.em (k2.1 = 6)).elim (fun z => Or.inl (by obtain ⟨n2, b2, e2, d2⟩ := k2; unfold nwEi at q; simp only [Prod.mk.injEq] at q z ⊢; omega)) (fun z => Or.inr ⟨q, z⟩)), tf0.trans (by rw [ta5, ta6, ta7]; rfl)⟩ (by show 3 + 7 * 6 ≤ 45; decide) (by show 12 + 104 * 6 ≤ 636; decide) dX2_init_58
  · refine lv_aload_n hx hb dX2_init_39 rfl (lv_at hl 1 rfl) ?_
    refine r_get X h ta0 tm0 tf0 rfl inX2 3 (by decide) q133 rfl rfl dX2_init_40 ?_
    refine lv_iload_n hx hb dX2_init_43 rfl (lv_at hl 0 rfl) ?_
    have hnw : ¬ nwEi b e i (9, b, e, i) := by simp [nwEi]
    have hfc : (9, b, e, i) ∉ Ks := hf _ (by simp [nwEi]; omega)
    have hLc : LK (9, b, e, i) := ⟨fun q => absurd q (by simp), fun _ => c36⟩
    refine r_new X h (k := (9, b, e, i)) (w.fresh hnw hfc) (ci := 2) (fs := [.int 0, .int 0, .null, .null, .null, .null]) rfl inX1 tyX1_ok q50 q79 q12 dfX1 (by show 3 + 7 * i + 1 ≤ 45; omega) (by show 12 + 104 * i + 6 ≤ 636; omega) dX2_init_44 (fun ad2 H a9 ta9 hn h => ?_)
    obtain ⟨Ks2, st2, h, tm9, tf9, kp, w⟩ := w_step h w hnw hfc hLc hn
    have tf0 := (kp _ tm0).2.2.trans tf0
    have ta0 := ta0.trans (kp _ tm0).1.symm
    have tm0 := (kp _ tm0).2.1
    have tf6 := (kp _ tm6).2.2.trans tf6
    have ta6 := ta6.trans (kp _ tm6).1.symm
    have tm6 := (kp _ tm6).2.1
    have ta5 := ta5.trans (kp _ tm5).1.symm
    have tm5 := (kp _ tm5).2.1
    have ta7 := ta7.trans (kp _ tm7).1.symm
    have tm7 := (kp _ tm7).2.1
    have had : ∀ d, d < i → ad2 (9, b, e, d) = ad1 (9, b, e, d) := fun d hd => hn _ (by simp; omega)
    refine lv_dup hx hb dX2_init_47 rfl ?_
    have hfr : ∀ k2, nwC b e i k2 → k2 ∉ Ks2 := fun k2 z => w.fresh (by obtain ⟨n2, b2, e2, d2⟩ := k2; unfold nwC at z; unfold nwEi; simp only [Prod.mk.injEq] at z ⊢; omega) (hf k2 (by obtain ⟨n2, b2, e2, d2⟩ := k2; unfold nwC at z; unfold nwEi; simp only at z ⊢; omega))
    refine g_doneV X h (g_runIN X h (b := a9) (by rw [ta9]; exact m_X1_init b e i c36 tf9 tm9 hfr _) F_X1_init t80 q81 rfl rfl (by decide) (by decide) ⟨by show 3 + 7 * i + 1 + 6 ≤ 45; omega, by show 12 + 104 * i + 6 + 98 ≤ 636; omega⟩ hl.1 (Nat.le_of_ble_eq_true rfl) dX2_init_48 rfl) (fun u H locs hP h => ?_)
    obtain ⟨ad3, Ks3, st3⟩ := u
    have h : Sx D (wA ad Ks s.heap.size) ad3 Ks3 st3 s H locs := h
    have kp := w_sub hP hfr
    have w := w.sub (by simp) (by simp [nwEi]) hP (fun k2 z => ⟨by obtain ⟨n2, b2, e2, d2⟩ := k2; unfold nwC at z; unfold nwEi; simp only [Prod.mk.injEq] at z ⊢; omega, hf k2 (by obtain ⟨n2, b2, e2, d2⟩ := k2; unfold nwC at z; unfold nwEi; simp only at z ⊢; omega), by obtain ⟨n2, b2, e2, d2⟩ := k2; unfold nwC at z; unfold LK; simp only at z ⊢; omega⟩) (fun k2 z => Or.inl (by rcases z with rfl | rfl | rfl | rfl <;> simp [nwC])) hfc
    have ta9 := ta9.trans (kp _ tm9).1.symm
    have tm9 := (kp _ tm9).2.1
    have tf9 : st3 (9, b, e, i) = tgtZ tc dz ad3 (9, b, e, i) := hP.2
    have tf0 := ((kp _ tm0).2.2 (nek (by decide))).trans tf0
    have ta0 := ta0.trans (kp _ tm0).1.symm
    have tm0 := (kp _ tm0).2.1
    have tf6 := ((kp _ tm6).2.2 (nek (by decide))).trans tf6
    have ta6 := ta6.trans (kp _ tm6).1.symm
    have tm6 := (kp _ tm6).2.1
    have ta5 := ta5.trans (kp _ tm5).1.symm
    have ta7 := ta7.trans (kp _ tm7).1.symm
    have had : ∀ d, d < i → ad3 (9, b, e, d) = ad1 (9, b, e, d) := fun d hd => (hP.1.1 _ (by simp [nwC])).trans (had d hd)
    refine r_astq X h ta6 tm6 (t0 := 5) rfl tf6 ta9 tm9 tf9 rfl (Or.inl rfl) i c36 (by decide) dX2_init_51 (fun H locs h => ?_)
    obtain ⟨st4, h, tf6, kn, w⟩ := w_put h w (by simp [nwEi, nwC]) (fun q => absurd q (hf (6, b, e, 0) (by simp [nwEi])))
    have tf0 := (kn _ (nek (by decide))).trans tf0
    refine n_iinc (j := i) (n := 1) (lv' := [(1, .int (nI (i + 1))), (0, .ref a0)]) hx hb dX2_init_52 hl (k := 0) rfl (by decide) (by decide) rfl (fun ls hl => ?_)
    refine lv_goto (tgt := 33) hx hb dX2_init_55 (by decide) ?_
    refine W.widen (k := 3 + 7 * (i + 1)) (n := 12 + 104 * (i + 1)) (by omega) (by omega) ?_
    refine ih (i + 1, (ad3, Ks3, st4)) ⟨c36, w.imp (fun k2 => by obtain ⟨n2, b2, e2, d2⟩ := k2; unfold nwEi nwC; simp only [Prod.mk.injEq]; clear w; (constructor <;> intro q <;> omega)) (fun k2 q => by obtain ⟨n2, b2, e2, d2⟩ := k2; obtain ⟨q, q6⟩ := q; unfold nwEi at q; unfold nwEi nwC; simp only [Prod.mk.injEq] at q q6 ⊢; omega), tf0, ta5, ta6, ta7, tf6.trans ?_⟩ (by show 6 - (i + 1) < 6 - i; omega) _ _ _ h hl
    have ef : va_up (fun d => if d < i then some (ad1 (9, b, e, d)) else none) i (some a9) = fun d => if d < i + 1 then some (ad3 (9, b, e, d)) else none := by
      funext d
      by_cases h1 : d = i
      · subst h1
        simp [va_up, ta9]
      · by_cases h2 : d < i
        · rw [show va_up (fun d => if d < i then some (ad1 (9, b, e, d)) else none) i (some a9) d = _ from if_neg h1]
          show (if d < i then some (ad1 (9, b, e, d)) else none) = _
          rw [if_pos h2, if_pos (by omega), had d h2]
        · rw [show va_up (fun d => if d < i then some (ad1 (9, b, e, d)) else none) i (some a9) d = _ from if_neg h1]
          show (if d < i then some (ad1 (9, b, e, d)) else none) = _
          rw [if_neg h2, if_neg (by omega)]
    exact congrArg (fun f => (Sum.inl (tc 5, 6, .inr (.inr (.inr (.inr f)))) : va_E)) ef
set_option maxHeartbeats 4000000 in
set_option maxRecDepth 100000 in
theorem m_X0_init {l : Launch} {D : va_G} {tc : TC} {dz : Nat} {ad : KN → Nat} {Ks : List KN} {st : KN → va_E} (b : Nat) (hs : st (1, b, 0, 0) = .inr (1, [.int 0, .int 0, .null, .null])) (hk : (1, b, 0, 0) ∈ Ks) (hf : ∀ k2, nwBi b 10 k2 → k2 ∉ Ks) : GV l yX0_init cX0_init 2 5 462 6426 D tc dz ad Ks st [.ref (ad (1, b, 0, 0))] (Made LK tc dz ad Ks st (1, b, 0, 0) (nwBi b 10)) := by
  intro sz
  refine x_ofW (by decide +kernel) (Nat.le_of_ble_eq_true rfl) (fun pp ee s mm bel meth cd ls X hr hin hz h hl => ?_)
  subst hz
  obtain ⟨hx, hb, hmaxL, hown, hts⟩ := id X.1
  obtain ⟨a0, ta0⟩ : ∃ a0, a0 = ad (1, b, 0, 0) := ⟨_, rfl⟩
  have hl : lv_has ls 2 [(0, .ref a0)] := by rw [ta0]; exact hl
  have ta0o := ta0
  have tm0 := hk
  have tf0 := hs
  have w : WF LK tc dz ad Ks st (1, b, 0, 0) (fun _ => False) (fun _ => False) (ad, Ks, st) := WF.start
  refine lv_aload_n hx hb dX0_init_0 rfl (lv_at hl 0 rfl) ?_
  refine g_objInit X hl.1 q42 dX0_init_1 (by decide) (by decide) ?_
  refine lv_aload_n hx hb dX0_init_4 rfl (lv_at hl 0 rfl) ?_
  refine lv_bipush (v := nI 6) hx hb dX0_init_5 (by decide) ?_
  refine r_newI X h (k := (2, b, 0, 0)) (w.fresh (by simp) (hf (2, b, 0, 0) (by simp [nwBi]))) (n := 6) (by decide) (by decide) (by decide) (by decide) dX0_init_7 (fun ad1 H a1 ta1 hn h => ?_)
  obtain ⟨Ks1, st1, h, tm1, tf1, kp, w⟩ := w_step h w (by simp) (hf (2, b, 0, 0) (by simp [nwBi])) (by simp [LK]) hn
  have tf0 := ((kp _ tm0).2.2).trans tf0
  have ta0 := ta0.trans (kp _ tm0).1.symm
  have tm0 := (kp _ tm0).2.1
  have w := w.addT (Or.inl rfl) (tf1.trans rfl) (fun k2 q => absurd q id)
  refine r_putF X h hin ta0 tm0 tf0 rfl inX0 tyX0_ok nmX0 2 (by decide) q152 rfl rfl rfl rfl rfl (Nat.le_of_ble_eq_true rfl) dX0_init_9 (fun H locs h => ?_)
  obtain ⟨st2, h, tf0, kn, w⟩ := w_put h w (by simp) (fun _ => rfl)
  have tf0 : st2 (1, b, 0, 0) = .inr (1, [.int 0, .int 0, .ref a1, .null]) := tf0
  refine lv_aload_n hx hb dX0_init_12 rfl (lv_at hl 0 rfl) ?_
  refine lv_bipush (v := nI 10) hx hb dX0_init_13 (by decide) ?_
  refine r_newq X h (k := (3, b, 0, 0)) (w.fresh (by simp) (hf (3, b, 0, 0) (by simp [nwBi]))) (n := 10) (t0 := 4) rfl q43 t44 (by decide) (by decide) (by decide) (by decide) dX0_init_15 (fun ad3 H a3 ta3 hn h => ?_)
  obtain ⟨Ks3, st3, h, tm3, tf3, kp, w⟩ := w_step h w (by simp) (hf (3, b, 0, 0) (by simp [nwBi])) (by simp [LK]) hn
  have tf0 := ((kp _ tm0).2.2).trans tf0
  have ta0 := ta0.trans (kp _ tm0).1.symm
  have tm0 := (kp _ tm0).2.1
  have ta1 := ta1.trans (kp _ tm1).1.symm
  have tm1 := (kp _ tm1).2.1
  refine r_putF X h hin ta0 tm0 tf0 rfl inX0 tyX0_ok nmX0 3 (by decide) q153 rfl rfl rfl rfl rfl (Nat.le_of_ble_eq_true rfl) dX0_init_18 (fun H locs h => ?_)
  obtain ⟨st4, h, tf0, kn, w⟩ := w_put h w (by simp) (fun _ => rfl)
  have tf0 : st4 (1, b, 0, 0) = .inr (1, [.int 0, .int 0, .ref a1, .ref a3]) := tf0
  have tf3 := (kn _ (nek (by decide))).trans tf3
  refine lv_iconst (v := nI 0) hx hb dX0_init_21 (by decide) ?_
  refine lv_istore_n (lv' := [(1, .int (nI 0)), (0, .ref a0)]) hx hb dX0_init_22 rfl hl (by decide) rfl (fun ls hl => ?_)
  refine W.widen (k := 2 + 46 * 0) (n := 16 + 641 * 0) (by decide) (by decide) ?_
  refine g_loop (D := D) (A := wA ad Ks s.heap.size) (nL := 2) (σ := Nat × WS) (fun x => x.2) (fun x => [(1, .int (nI x.1)), (0, .ref a0)]) (fun x => 2 + 46 * x.1) (fun x => 16 + 641 * x.1) (fun x => x.1 ≤ 10 ∧ BIv tc dz b x.1 ad Ks st a1 a3 x.2) (fun x => 10 - x.1) (fun x hok ih H locs ls h hl => ?_) (0, (ad3, Ks3, st4)) ⟨Nat.zero_le _, w.imp (fun k2 => by unfold nwBi; obtain ⟨n2, b2, e2, d2⟩ := k2; simp only [Prod.mk.injEq, or_false, false_or]; clear w; (constructor <;> intro q <;> omega)) (fun k2 q => by unfold nwBi at q; obtain ⟨n2, b2, e2, d2⟩ := k2; simp only [Prod.mk.injEq, or_false, false_or] at q ⊢; omega), tf0, ta1, ta3, tf3⟩ h hl
  obtain ⟨i, ad1, Ks1, st1⟩ := x
  obtain ⟨hi, w, tf0, ta2, ta3, tf3⟩ := hok
  have hi : i ≤ 10 := hi
  have h : Sx D (wA ad Ks s.heap.size) ad1 Ks1 st1 s H locs := h
  have hl : lv_has ls 2 [(1, .int (nI i)), (0, .ref a0)] := hl
  have tm0 : (1, b, 0, 0) ∈ Ks1 := (w.2.1 _).mpr (Or.inr hk)
  have ta0 : a0 = ad1 (1, b, 0, 0) := ta0o.trans (w.1 _ (by simp [nwBi])).symm
  have tm3 : (3, b, 0, 0) ∈ Ks1 := (w.2.1 _).mpr (Or.inl (by simp [nwBi]))
  have tm2 : (2, b, 0, 0) ∈ Ks1 := (w.2.1 _).mpr (Or.inl (by simp [nwBi]))
  refine lv_iload_n hx hb dX0_init_23 rfl (lv_at hl 0 rfl) ?_
  refine lv_bipush (v := nI 10) hx hb dX0_init_24 (by decide) ?_
  refine n_icmp_ge (tgt := 48) hx hb (by omega) (by omega) dX0_init_26 (by decide) (fun c36 => ?_) (fun c36 => ?_)
  · obtain rfl : i = 10 := by omega
    have h2 := h.arrq (g := fun e => some (ad1 (4, b, e, 0))) tf3 (fun c hc => if_pos hc)
    obtain ⟨st2, h, tf3, kn, w⟩ := w_put h2 w (fun q => q.2 rfl) (fun q => absurd q (hf (3, b, 0, 0) (by simp [nwBi])))
    have tf0 := (kn _ (nek (by decide))).trans tf0
    have w := w.addT (k := (3, b, 0, 0)) (by simp [nwBi]) tf3 (fun k2 q => by
      obtain ⟨d, rfl⟩ := q
      by_cases hd : d < 10
      · exact Or.inl (by simp [nwBi, hd])
      · exact Or.inr (fun z => hd (z.1 rfl)))
    refine g_vret X h hr ⟨w.imp (fun k2 => Iff.rfl) (fun k2 q => (Decidable.em (k2.1 = 3)).elim (fun z => Or.inl (by obtain ⟨n2, b2, e2, d2⟩ := k2; unfold nwBi at q; simp only [Prod.mk.injEq] at q z ⊢; omega)) (fun z => Or.inr ⟨q, z⟩)), tf0.trans (by rw [ta2, ta3]; rfl)⟩ (by show 2 + 46 * 10 ≤ 462; decide) (by show 16 + 641 * 10 ≤ 6426; decide) dX0_init_48
  · refine lv_aload_n hx hb dX0_init_29 rfl (lv_at hl 1 rfl) ?_
    refine r_get X h ta0 tm0 tf0 rfl inX0 3 (by decide) q153 rfl rfl dX0_init_30 ?_
    refine lv_iload_n hx hb dX0_init_33 rfl (lv_at hl 0 rfl) ?_
    have hnw : ¬ nwBi b i (4, b, i, 0) := by simp [nwBi]
    have hfc : (4, b, i, 0) ∉ Ks := hf _ (by simp [nwBi]; omega)
    have hLc : LK (4, b, i, 0) := ⟨fun _ => c36, fun q => absurd q (by simp)⟩
    refine r_new X h (k := (4, b, i, 0)) (w.fresh hnw hfc) (ci := 3) (fs := [.int 0, .int 0, .null, .null, .null]) rfl inX2 tyX2_ok q43 q45 q8 dfX2 (by show 2 + 46 * i + 1 ≤ 462; omega) (by show 16 + 641 * i + 5 ≤ 6426; omega) dX0_init_34 (fun ad2 H a9 ta9 hn h => ?_)
    obtain ⟨Ks2, st2, h, tm9, tf9, kp, w⟩ := w_step h w hnw hfc hLc hn
    have tf0 := (kp _ tm0).2.2.trans tf0
    have ta0 := ta0.trans (kp _ tm0).1.symm
    have tm0 := (kp _ tm0).2.1
    have tf3 := (kp _ tm3).2.2.trans tf3
    have ta3 := ta3.trans (kp _ tm3).1.symm
    have tm3 := (kp _ tm3).2.1
    have ta2 := ta2.trans (kp _ tm2).1.symm
    have tm2 := (kp _ tm2).2.1
    have had : ∀ e, e < i → ad2 (4, b, e, 0) = ad1 (4, b, e, 0) := fun e he => hn _ (by simp; omega)
    refine lv_dup hx hb dX0_init_37 rfl ?_
    have hfr : ∀ k2, nwEi b i 6 k2 → k2 ∉ Ks2 := fun k2 z => w.fresh (by obtain ⟨n2, b2, e2, d2⟩ := k2; unfold nwEi at z; unfold nwBi; simp only [Prod.mk.injEq] at z ⊢; omega) (hf k2 (by obtain ⟨n2, b2, e2, d2⟩ := k2; unfold nwEi at z; unfold nwBi; simp only at z ⊢; omega))
    refine g_doneV X h (g_runI X h (b := a9) (by rw [ta9]; exact m_X2_init b i c36 tf9 tm9 hfr _) F_X2_init q46 q47 rfl rfl (by decide) (by decide) ⟨by show 2 + 46 * i + 1 + 45 ≤ 462; omega, by show 16 + 641 * i + 5 + 636 ≤ 6426; omega⟩ hl.1 (Nat.le_of_ble_eq_true rfl) dX0_init_38 rfl) (fun u H locs hP h => ?_)
    obtain ⟨ad3, Ks3, st3⟩ := u
    have h : Sx D (wA ad Ks s.heap.size) ad3 Ks3 st3 s H locs := h
    have kp := w_sub hP hfr
    have w := w.sub (by simp) (by simp [nwBi]) hP (fun k2 z => ⟨by obtain ⟨n2, b2, e2, d2⟩ := k2; unfold nwEi at z; unfold nwBi; simp only [Prod.mk.injEq] at z ⊢; omega, hf k2 (by obtain ⟨n2, b2, e2, d2⟩ := k2; unfold nwEi at z; unfold nwBi; simp only at z ⊢; omega), by obtain ⟨n2, b2, e2, d2⟩ := k2; unfold nwEi at z; unfold LK; simp only at z ⊢; omega⟩) (fun k2 z => Or.inl (by rcases z with rfl | rfl | rfl <;> simp [nwEi])) hfc
    have ta9 := ta9.trans (kp _ tm9).1.symm
    have tm9 := (kp _ tm9).2.1
    have tf9 : st3 (4, b, i, 0) = tgtZ tc dz ad3 (4, b, i, 0) := hP.2
    have tf0 := ((kp _ tm0).2.2 (nek (by decide))).trans tf0
    have ta0 := ta0.trans (kp _ tm0).1.symm
    have tm0 := (kp _ tm0).2.1
    have tf3 := ((kp _ tm3).2.2 (nek (by decide))).trans tf3
    have ta3 := ta3.trans (kp _ tm3).1.symm
    have tm3 := (kp _ tm3).2.1
    have ta2 := ta2.trans (kp _ tm2).1.symm
    have had : ∀ e, e < i → ad3 (4, b, e, 0) = ad1 (4, b, e, 0) := fun e he => (hP.1.1 _ (by simp [nwEi])).trans (had e he)
    refine r_astq X h ta3 tm3 (t0 := 4) rfl tf3 ta9 tm9 tf9 rfl (Or.inl rfl) i c36 (by decide) dX0_init_41 (fun H locs h => ?_)
    obtain ⟨st4, h, tf3, kn, w⟩ := w_put h w (by simp [nwBi, nwEi]) (fun q => absurd q (hf (3, b, 0, 0) (by simp [nwBi])))
    have tf0 := (kn _ (nek (by decide))).trans tf0
    refine n_iinc (j := i) (n := 1) (lv' := [(1, .int (nI (i + 1))), (0, .ref a0)]) hx hb dX0_init_42 hl (k := 0) rfl (by decide) (by decide) rfl (fun ls hl => ?_)
    refine lv_goto (tgt := 23) hx hb dX0_init_45 (by decide) ?_
    refine W.widen (k := 2 + 46 * (i + 1)) (n := 16 + 641 * (i + 1)) (by omega) (by omega) ?_
    refine ih (i + 1, (ad3, Ks3, st4)) ⟨c36, w.imp (fun k2 => by obtain ⟨n2, b2, e2, d2⟩ := k2; unfold nwBi nwEi; simp only [Prod.mk.injEq]; clear w; (constructor <;> intro q <;> omega)) (fun k2 q => by obtain ⟨n2, b2, e2, d2⟩ := k2; obtain ⟨q, q6⟩ := q; unfold nwBi at q; unfold nwBi nwEi; simp only [Prod.mk.injEq] at q q6 ⊢; omega), tf0, ta2, ta3, tf3.trans ?_⟩ (by show 10 - (i + 1) < 10 - i; omega) _ _ _ h hl
    have ef : va_up (fun e => if e < i then some (ad1 (4, b, e, 0)) else none) i (some a9) = fun e => if e < i + 1 then some (ad3 (4, b, e, 0)) else none := by
      funext d
      by_cases h1 : d = i
      · subst h1
        simp [va_up, ta9]
      · by_cases h2 : d < i
        · rw [show va_up (fun e => if e < i then some (ad1 (4, b, e, 0)) else none) i (some a9) d = _ from if_neg h1]
          show (if d < i then some (ad1 (4, b, d, 0)) else none) = _
          rw [if_pos h2, if_pos (by omega), had d h2]
        · rw [show va_up (fun e => if e < i then some (ad1 (4, b, e, 0)) else none) i (some a9) d = _ from if_neg h1]
          show (if d < i then some (ad1 (4, b, d, 0)) else none) = _
          rw [if_neg h2, if_neg (by omega)]
    exact congrArg (fun f => (Sum.inl (tc 4, 10, .inr (.inr (.inr (.inr f)))) : va_E)) ef
