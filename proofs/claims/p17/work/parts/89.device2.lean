/-! a device looked at, put together -/
theorem mclE_s (Y : Mem) (d k m f : Nat) : (mstR Y d k m = 1 ∧ 1 < cnF Y d k f ∧ mclE Y d k m (f + 1) = mclE Y d k m f + 1) ∨ (¬ (mstR Y d k m = 1 ∧ 1 < cnF Y d k f) ∧ mclE Y d k m (f + 1) = mclE Y d k m f) := by
  rw [mclE, ← mst_thr]
  by_cases a : mstR Y d k m = 1
  · by_cases b : 1 < cnF Y d k f
    · rw [decide_eq_true a, decide_eq_true b, Bool.true_and, if_pos rfl]
      exact Or.inl ⟨a, b, rfl⟩
    · rw [decide_eq_false b, Bool.and_false, if_neg (by decide)]
      exact Or.inr ⟨fun q => b q.2, rfl⟩
  · rw [decide_eq_false a, Bool.false_and, if_neg (by decide)]
    exact Or.inr ⟨fun q => a q.1, rfl⟩
theorem mclE_z {Y : Mem} {d k m : Nat} (h : mstR Y d k m = 0) : ∀ f, mclE Y d k m f = 0
  | 0 => rfl
  | f + 1 => by
    have := mclE_z h f
    rcases mclE_s Y d k m f with q | q
    · omega
    · omega
/-- what is left to pay for the field looked at anew -/
def va (v fd q : Nat) : Nat := if q ≤ fd ∧ fd < 8 then v else 0
theorem va_le {v fd q q2 : Nat} (h : q ≤ q2) : va v fd q2 ≤ va v fd q := by
  unfold va
  by_cases a : q2 ≤ fd ∧ fd < 8
  · rw [if_pos a, if_pos ⟨by omega, a.2⟩]; exact Nat.le_refl v
  · rw [if_neg a]; exact Nat.zero_le _
theorem va_eq {v fd q q2 : Nat} (h : q = fd) (h8 : q < 8) (h2 : q2 = q + 1) : va v fd q2 + v ≤ va v fd q := by
  unfold va
  rw [if_neg (by omega), if_pos (by omega)]
  omega
theorem NX.zz {V : Nat → BS} {acts : Nat → Act} {z n m t : Nat} {ac mcs : Nat → Nat} {cn : Nat} {Y Z : Mem} {Ks : List KN} {gm : GM} (h : NX V acts z n m t ac mcs cn Y Ks gm Z) : ∀ k, k < 43 → Z (k, 0, 0, 0) = Y (k, 0, 0, 0) := h.2.2.2.2
theorem NX.cp {V : Nat → BS} {acts : Nat → Act} {z n m t : Nat} {ac mcs : Nat → Nat} {cn : Nat} {Y Z : Mem} {Ks : List KN} {gm : GM} (h : NX V acts z n m t ac mcs cn Y Ks gm Z) {d k : Nat} (hd : d < 6) (hk : k < 10) : Cp (LL Z) Z Lw ac k d := (lb_rel0 (G := Z) h.2.2.2.1.1.1 (fun _ _ => rfl)).cp k d hk hd

section SEGS
variable {p : Program} {l : Launch} {e : Env} {R : Room} {s : State} {mth : MethodId} {args : Array Value} {below : List Frame} {meth : Method} {c : Code} {H : Heap} {locs : List Loc} {cells slots : Nat} {Q : State → Prop}
variable {D : va_G} {tc : TC} {dz : Nat} {A : Nat → Prop} {ad : KN → Nat} {Ks : List KN} {gm : GM} {ls : Array Slot}

set_option maxHeartbeats 4000000 in
set_option maxRecDepth 100000 in
theorem dv_of0 (X : Cx p s mth args meth c cL_isDevice yL_isDevice.cls 21 D tc dz A) (hR1 : 13 ≤ R.frames) (hR2 : 410 ≤ R.locals) (hst : l.stackTraces = false) (hcR : cells ≤ R.cells) (hsR : slots ≤ R.slots) (V : Nat → BS) (acts : Nat → Act) (z n m t : Nat) (ac mcs : Nat → Nat) (cn : Nat) (hcn : cn < 59) (Y : Mem) (d k fd : Nat) (hd : d < 6) (hk : k < n) (hk2 : k < 2) (hfd : fd ≤ 8) (cl stt f : Nat) (hs4 : stt ≤ 3) (hf : f < 4) (u : Nat → Int32) (Z : Mem) (hNX : NX V acts z n m t ac mcs cn Y Ks gm Z) (hu9 : rw6 (Z (35, 0, 0, 0)) (24 * (10 * d + k) + 6 * f) = u) (hkn : nz (LL Z (9, 0, k, d) 0) = true)
  (kk : ∀ (H1 : Heap) (locs1 : List Loc) (ls1 : Array Slot), Sx D A ad Ks (lay tc ad gm dz (LL Z)) s H1 locs1 → lv_has ls1 21 [(18, .int (nI (mnu u 6))), (15, .int (nI f)), (14, .int (nI stt)), (13, .int (nI k)), (12, .int (bI true)), (11, .int (nI cl)), (0, .ref (ad (0, 0, 0, 0))), (1, .ref (ad (35, 0, 0, 0))), (2, .ref (ad (37, 0, 0, 0))), (3, .ref (ad (43, 0, 0, 0))), (4, .ref (ad (44, 0, 0, 0))), (5, .ref (ad (41, 0, 0, 0))), (6, .ref (ad (42, 0, 0, 0))), (7, .ref (ad (40, 0, 0, 0))), (8, .ref (ad (45, 0, 0, 0))), (9, .int (nI d)), (10, .int (nI fd))] → W p l e R s mth args below meth c H1 locs1 cells slots Q (F0 mth 319 ls1 [])) :
  ∀ (x o : Nat) (H : Heap) (locs : List Loc) (ls : Array Slot), o + x = 6 → (¬ 4 * k + f = fd ∨ 0 < mnu u o) → Sx D A ad Ks (lay tc ad gm dz (LL Z)) s H locs → lv_has ls 21 [(19, .int (nI o)), (18, .int (nI (mnu u o))), (16, .long (pk u)), (15, .int (nI f)), (14, .int (nI stt)), (13, .int (nI k)), (12, .int (bI true)), (11, .int (nI cl)), (0, .ref (ad (0, 0, 0, 0))), (1, .ref (ad (35, 0, 0, 0))), (2, .ref (ad (37, 0, 0, 0))), (3, .ref (ad (43, 0, 0, 0))), (4, .ref (ad (44, 0, 0, 0))), (5, .ref (ad (41, 0, 0, 0))), (6, .ref (ad (42, 0, 0, 0))), (7, .ref (ad (40, 0, 0, 0))), (8, .ref (ad (45, 0, 0, 0))), (9, .int (nI d)), (10, .int (nI fd))] → W p l e R s mth args below meth c H locs cells slots Q (F0 mth 173 ls []) := by
  have hC := hNX.cp (d := d) (k := k) hd (by omega)
  have hu : ∀ j, j < 6 → sm6 (u j) := fun j _ => by rw [← hu9]; exact hNX.2.2.2.1.2.1.1.1 _
  have hml := fun o => mnu_le u o
  have hvv : ∀ o b, o < 6 → u o = nI b → 0 < b → b < 64 → vFrom (LL Z (10, 0, k, d)) (LL Z (11, 0, k, d)) f 6 0 (mnu u o) = nI ((100 * o + 37 * b) % 1000) := fun o b ho hb hb0 hb6 => by
    have q := dv_val hC hf ho (b := b) (by rw [hu9]; exact hb) hb0 hb6
    rw [hu9] at q
    exact q
  have hvl : ∀ o, o < 6 → 0 < u o → mnu u o < cvF (LL Z (10, 0, k, d)) f := fun o ho hp => by
    have q := dv_lt hC hf ho (by rw [hu9]; exact hp)
    rw [hu9] at q
    exact q
  intro x
  induction x with
  | zero =>
    intro o H locs ls ho hng h hl
    have e : o = 6 := ho
    subst e
    exact dv_x X hR1 hR2 (by omega) (by omega) hNX.1 hst hNX.2.1 hNX.2.2.1 Z V acts z n m t ac mcs cn hNX.2.2.2.1 hcn d k fd cl hd hk stt f hs4 hf u (mnu u 6) h hl kk
  | succ x ih =>
    intro o H locs ls ho hng h hl
    have hmo := hml o
    by_cases hp : 0 < u o
    · have hmn : mnu u o + 1 = mnu u (o + 1) := (cntN_y (p := fun i => decide (0 < u i)) (decide_eq_true hp)).symm
      obtain ⟨hub, hb6⟩ := sm6_nI (hu o (by omega))
      have hb0 : 0 < (u o).toInt.toNat := by have q := Int32.lt_iff_toInt_lt.mp hp; rw [i_zero] at q; omega
      refine dv_v1 X hR1 hR2 (by omega) (by omega) hNX.1 hst hNX.2.1 hNX.2.2.1 Z V acts z n m t ac mcs cn hNX.2.2.2.1 hcn d k fd cl hd hk stt f hs4 hf u hu o (mnu u o) (by omega) (by omega) (u o).toInt.toNat hub hb0 hb6 (hvv o (u o).toInt.toNat (by omega) hub hb0 hb6) hkn (hvl o (by omega) hp) h hl (fun H locs ls h hl => ?_)
      refine dv_w0 X hR1 hR2 (by omega) (by omega) hNX.1 hst hNX.2.1 hNX.2.2.1 Z V acts z n m t ac mcs cn hNX.2.2.2.1 hcn d k fd cl hd hk stt f hs4 hf u hu o (mnu u o) (by omega) (by omega) (u o).toInt.toNat hk2 hfd hng h hl (fun H locs ls h hl => ?_)
      rw [hmn] at hl
      have hmo2 := hml (o + 1)
      refine dv_s X hR1 hR2 (by omega) (by omega) hNX.1 hst hNX.2.1 hNX.2.2.1 Z V acts z n m t ac mcs cn hNX.2.2.2.1 hcn d k fd cl hd hk stt f hs4 hf u hu o (mnu u (o + 1)) (by omega) (by omega) hk2 hkn (dv_se hC hf (by omega)) h hl (fun H locs ls h hl => ?_)
      exact ih (o + 1) H locs ls (by omega) (Or.inr (by omega)) h hl
    · have hmn : mnu u (o + 1) = mnu u o := cntN_n (p := fun i => decide (0 < u i)) (decide_eq_false hp)
      refine dv_v0 X hR1 hR2 (by omega) (by omega) hNX.1 hst hNX.2.1 hNX.2.2.1 Z V acts z n m t ac mcs cn hNX.2.2.2.1 hcn d k fd cl hd hk stt f hs4 hf u hu o (mnu u o) (by omega) (by omega) hp h hl (fun H locs ls h hl => ?_)
      refine dv_s X hR1 hR2 (by omega) (by omega) hNX.1 hst hNX.2.1 hNX.2.2.1 Z V acts z n m t ac mcs cn hNX.2.2.2.1 hcn d k fd cl hd hk stt f hs4 hf u hu o (mnu u o) (by omega) (by omega) hk2 hkn (dv_se hC hf (by omega)) h hl (fun H locs ls h hl => ?_)
      rw [← hmn] at hl
      exact ih (o + 1) H locs ls (by omega) (by rw [hmn]; exact hng) h hl

set_option maxHeartbeats 4000000 in
set_option maxRecDepth 100000 in
theorem dv_of1 (X : Cx p s mth args meth c cL_isDevice yL_isDevice.cls 21 D tc dz A) (hR1 : 13 ≤ R.frames) (hR2 : 410 ≤ R.locals) (hst : l.stackTraces = false) (hcR : cells + 50 ≤ R.cells) (hsR : slots + 21110 ≤ R.slots) (V : Nat → BS) (acts : Nat → Act) (z n m t : Nat) (ac mcs : Nat → Nat) (cn : Nat) (hcn : cn < 59) (Y : Mem) (d k fd : Nat) (hd : d < 6) (hk : k < n) (hk2 : k < 2) (hfd : fd ≤ 8) (cl stt f : Nat) (hs4 : stt ≤ 3) (hf : f < 4) (u : Nat → Int32) (Z : Mem) (hNX : NX V acts z n m t ac mcs cn Y Ks gm Z) (hu9 : rw6 (Z (35, 0, 0, 0)) (24 * (10 * d + k) + 6 * f) = u) (hkn : nz (LL Z (9, 0, k, d) 0) = true) (hfe : 4 * k + f = fd)
  (kk : ∀ (ad1 : KN → Nat) (Ks1 : List KN) (gm1 : GM) (Z1 : Mem) (H1 : Heap) (locs1 : List Loc) (ls1 : Array Slot), NX V acts z n m t ac mcs cn Y Ks1 gm1 Z1 → AEq ad ad1 → Sx D A ad1 Ks1 (lay tc ad1 gm1 dz (LL Z1)) s H1 locs1 → lv_has ls1 21 [(18, .int (nI (mnu u 6))), (15, .int (nI f)), (14, .int (nI stt)), (13, .int (nI k)), (12, .int (bI true)), (11, .int (nI cl)), (0, .ref (ad1 (0, 0, 0, 0))), (1, .ref (ad1 (35, 0, 0, 0))), (2, .ref (ad1 (37, 0, 0, 0))), (3, .ref (ad1 (43, 0, 0, 0))), (4, .ref (ad1 (44, 0, 0, 0))), (5, .ref (ad1 (41, 0, 0, 0))), (6, .ref (ad1 (42, 0, 0, 0))), (7, .ref (ad1 (40, 0, 0, 0))), (8, .ref (ad1 (45, 0, 0, 0))), (9, .int (nI d)), (10, .int (nI fd))] → W p l e R s mth args below meth c H1 locs1 (cells + 50) (slots + 21110) Q (F0 mth 319 ls1 [])) :
  ∀ (x o : Nat) (H : Heap) (locs : List Loc) (ls : Array Slot), o + x = 6 → mnu u o = 0 → Sx D A ad Ks (lay tc ad gm dz (LL Z)) s H locs → lv_has ls 21 [(19, .int (nI o)), (18, .int (nI 0)), (16, .long (pk u)), (15, .int (nI f)), (14, .int (nI stt)), (13, .int (nI k)), (12, .int (bI true)), (11, .int (nI cl)), (0, .ref (ad (0, 0, 0, 0))), (1, .ref (ad (35, 0, 0, 0))), (2, .ref (ad (37, 0, 0, 0))), (3, .ref (ad (43, 0, 0, 0))), (4, .ref (ad (44, 0, 0, 0))), (5, .ref (ad (41, 0, 0, 0))), (6, .ref (ad (42, 0, 0, 0))), (7, .ref (ad (40, 0, 0, 0))), (8, .ref (ad (45, 0, 0, 0))), (9, .int (nI d)), (10, .int (nI fd))] → W p l e R s mth args below meth c H locs cells slots Q (F0 mth 173 ls []) := by
  have hC := hNX.cp (d := d) (k := k) hd (by omega)
  have hu : ∀ j, j < 6 → sm6 (u j) := fun j _ => by rw [← hu9]; exact hNX.2.2.2.1.2.1.1.1 _
  have hml := fun o => mnu_le u o
  have hvv : ∀ o b, o < 6 → u o = nI b → 0 < b → b < 64 → vFrom (LL Z (10, 0, k, d)) (LL Z (11, 0, k, d)) f 6 0 (mnu u o) = nI ((100 * o + 37 * b) % 1000) := fun o b ho hb hb0 hb6 => by
    have q := dv_val hC hf ho (b := b) (by rw [hu9]; exact hb) hb0 hb6
    rw [hu9] at q
    exact q
  have hvl : ∀ o, o < 6 → 0 < u o → mnu u o < cvF (LL Z (10, 0, k, d)) f := fun o ho hp => by
    have q := dv_lt hC hf ho (by rw [hu9]; exact hp)
    rw [hu9] at q
    exact q
  intro x
  induction x with
  | zero =>
    intro o H locs ls ho hm0 h hl
    have e : o = 6 := ho
    subst e
    have hl : lv_has ls 21 [(19, .int (nI 6)), (18, .int (nI (mnu u 6))), (16, .long (pk u)), (15, .int (nI f)), (14, .int (nI stt)), (13, .int (nI k)), (12, .int (bI true)), (11, .int (nI cl)), (0, .ref (ad (0, 0, 0, 0))), (1, .ref (ad (35, 0, 0, 0))), (2, .ref (ad (37, 0, 0, 0))), (3, .ref (ad (43, 0, 0, 0))), (4, .ref (ad (44, 0, 0, 0))), (5, .ref (ad (41, 0, 0, 0))), (6, .ref (ad (42, 0, 0, 0))), (7, .ref (ad (40, 0, 0, 0))), (8, .ref (ad (45, 0, 0, 0))), (9, .int (nI d)), (10, .int (nI fd))] := by rw [hm0]; exact hl
    refine dv_x X hR1 hR2 (by omega) (by omega) hNX.1 hst hNX.2.1 hNX.2.2.1 Z V acts z n m t ac mcs cn hNX.2.2.2.1 hcn d k fd cl hd hk stt f hs4 hf u (mnu u 6) h hl (fun H locs ls h hl => ?_)
    exact W.widen (k := cells + 50) (n := slots + 21110) (by omega) (by omega) (kk ad Ks gm Z H locs ls hNX (AEq.refl ad) h hl)
  | succ x ih =>
    intro o H locs ls ho hm0 h hl
    by_cases hp : 0 < u o
    · have hmn : 0 + 1 = mnu u (o + 1) := by rw [← hm0]; exact (cntN_y (p := fun i => decide (0 < u i)) (decide_eq_true hp)).symm
      obtain ⟨hub, hb6⟩ := sm6_nI (hu o (by omega))
      have hb0 : 0 < (u o).toInt.toNat := by have q := Int32.lt_iff_toInt_lt.mp hp; rw [i_zero] at q; omega
      have hv0 := hvv o (u o).toInt.toNat (by omega) hub hb0 hb6
      have hl0 := hvl o (by omega) hp
      rw [hm0] at hv0 hl0
      refine dv_v1 X hR1 hR2 (by omega) (by omega) hNX.1 hst hNX.2.1 hNX.2.2.1 Z V acts z n m t ac mcs cn hNX.2.2.2.1 hcn d k fd cl hd hk stt f hs4 hf u hu o 0 (by omega) (by omega) (u o).toInt.toNat hub hb0 hb6 hv0 hkn hl0 h hl (fun H locs ls h hl => ?_)
      refine dv_w1 X hR1 hR2 (by omega) (by omega) hNX.1 hst hNX.2.1 hNX.2.2.1 Z V acts z n m t ac mcs cn hNX.2.2.2.1 hcn d k fd cl hd hk stt f hs4 hf u hu o (by omega) (u o).toInt.toNat hub hb0 hb6 hv0 hkn hl0 hk2 hfd hfe Y hNX.zz h hl (fun ad1 Ks1 gm1 Z1 H locs ls hNX1 hAE h hl => ?_)
      rw [hmn] at hl
      have hmo2 := hml (o + 1)
      have hC1 := hNX1.cp (d := d) (k := k) hd (by omega)
      have e35 : Z1 (35, 0, 0, 0) = Z (35, 0, 0, 0) := (hNX1.zz 35 (by decide)).trans (hNX.zz 35 (by decide)).symm
      have e34 : Z1 (34, 0, 0, 0) = Z (34, 0, 0, 0) := (hNX1.zz 34 (by decide)).trans (hNX.zz 34 (by decide)).symm
      have hkn1 : nz (LL Z1 (9, 0, k, d) 0) = true := by rw [hC1.kn, e34, ← hC.kn]; exact hkn
      have hu91 : rw6 (Z1 (35, 0, 0, 0)) (24 * (10 * d + k) + 6 * f) = u := by rw [e35]; exact hu9
      refine dv_s X hR1 hR2 (by omega) (by omega) hNX1.1 hst hNX1.2.1 hNX1.2.2.1 Z1 V acts z n m t ac mcs cn hNX1.2.2.2.1 hcn d k fd cl hd hk stt f hs4 hf u hu o (mnu u (o + 1)) (by omega) (by omega) hk2 hkn1 (dv_se hC1 hf (by omega)) h hl (fun H locs ls h hl => ?_)
      exact dv_of0 X hR1 hR2 hst hcR hsR V acts z n m t ac mcs cn hcn Y d k fd hd hk hk2 hfd cl stt f hs4 hf u Z1 hNX1 hu91 hkn1 (fun H locs ls h hl => kk ad1 Ks1 gm1 Z1 H locs ls hNX1 hAE h hl) x (o + 1) H locs ls (by omega) (Or.inr (by omega)) h hl
    · have hmn : mnu u (o + 1) = 0 := (cntN_n (p := fun i => decide (0 < u i)) (decide_eq_false hp)).trans hm0
      refine dv_v0 X hR1 hR2 (by omega) (by omega) hNX.1 hst hNX.2.1 hNX.2.2.1 Z V acts z n m t ac mcs cn hNX.2.2.2.1 hcn d k fd cl hd hk stt f hs4 hf u hu o 0 (by omega) (by omega) hp h hl (fun H locs ls h hl => ?_)
      refine dv_s X hR1 hR2 (by omega) (by omega) hNX.1 hst hNX.2.1 hNX.2.2.1 Z V acts z n m t ac mcs cn hNX.2.2.2.1 hcn d k fd cl hd hk stt f hs4 hf u hu o 0 (by omega) (by omega) hk2 hkn (dv_se hC hf (by omega)) h hl (fun H locs ls h hl => ?_)
      exact ih (o + 1) H locs ls (by omega) hmn h hl

set_option maxHeartbeats 4000000 in
set_option maxRecDepth 100000 in
theorem dv_fd0 (X : Cx p s mth args meth c cL_isDevice yL_isDevice.cls 21 D tc dz A) (hR1 : 13 ≤ R.frames) (hR2 : 410 ≤ R.locals) (hst : l.stackTraces = false) (hcR : cells + 1 ≤ R.cells) (hsR : slots + 6 ≤ R.slots) (V : Nat → BS) (acts : Nat → Act) (z n m t : Nat) (ac mcs : Nat → Nat) (cn : Nat) (hcn : cn < 59) (Y : Mem) (d k fd : Nat) (hd : d < 6) (hk : k < n) (hk2 : k < 2) (hfd : fd ≤ 8) (cl stt f : Nat) (hs4 : stt ≤ 3) (hf : f < 4) (u : Nat → Int32) (cl2 : Nat) (hcl : cl ≤ 8) (h0 : 0 < stt) (hc2 : (stt = 1 ∧ 1 < mnu u 6 ∧ cl2 = cl + 1) ∨ (¬ (stt = 1 ∧ 1 < mnu u 6) ∧ cl2 = cl)) (Z : Mem) (hNX : NX V acts z n m t ac mcs cn Y Ks gm Z) (hu9 : rw6 (Z (35, 0, 0, 0)) (24 * (10 * d + k) + 6 * f) = u) (hkn : nz (LL Z (9, 0, k, d) 0) = true) (hfe : ¬ 4 * k + f = fd) (h : Sx D A ad Ks (lay tc ad gm dz (LL Z)) s H locs) (hl : lv_has ls 21 [(15, .int (nI f)), (14, .int (nI stt)), (13, .int (nI k)), (12, .int (bI true)), (11, .int (nI cl)), (0, .ref (ad (0, 0, 0, 0))), (1, .ref (ad (35, 0, 0, 0))), (2, .ref (ad (37, 0, 0, 0))), (3, .ref (ad (43, 0, 0, 0))), (4, .ref (ad (44, 0, 0, 0))), (5, .ref (ad (41, 0, 0, 0))), (6, .ref (ad (42, 0, 0, 0))), (7, .ref (ad (40, 0, 0, 0))), (8, .ref (ad (45, 0, 0, 0))), (9, .int (nI d)), (10, .int (nI fd))])
  (kk : ∀ (H1 : Heap) (locs1 : List Loc) (ls1 : Array Slot), Sx D A ad Ks (lay tc ad gm dz (LL Z)) s H1 locs1 → lv_has ls1 21 [(15, .int (nI (f + 1))), (14, .int (nI stt)), (13, .int (nI k)), (12, .int (bI true)), (11, .int (nI cl2)), (0, .ref (ad (0, 0, 0, 0))), (1, .ref (ad (35, 0, 0, 0))), (2, .ref (ad (37, 0, 0, 0))), (3, .ref (ad (43, 0, 0, 0))), (4, .ref (ad (44, 0, 0, 0))), (5, .ref (ad (41, 0, 0, 0))), (6, .ref (ad (42, 0, 0, 0))), (7, .ref (ad (40, 0, 0, 0))), (8, .ref (ad (45, 0, 0, 0))), (9, .int (nI d)), (10, .int (nI fd))] → W p l e R s mth args below meth c H1 locs1 (cells + 1) (slots + 6) Q (F0 mth 138 ls1 [])) : W p l e R s mth args below meth c H locs cells slots Q (F0 mth 138 ls []) := by
  have hC := hNX.cp (d := d) (k := k) hd (by omega)
  have hm6 := mnu_le u 6
  have hcv : cvF (LL Z (10, 0, k, d)) f = mnu u 6 := by rw [rl_cnF hC hf, ← hu9]; rfl
  refine dv_f0 X hR1 hR2 (by omega) (by omega) hNX.1 hst hNX.2.1 hNX.2.2.1 Z V acts z n m t ac mcs cn hNX.2.2.2.1 hcn d k fd cl hd hk stt f hs4 hf h0 h hl (fun H locs ls h hl => ?_)
  rw [hu9] at hl
  refine dv_of0 X hR1 hR2 hst (by omega) (by omega) V acts z n m t ac mcs cn hcn Y d k fd hd hk hk2 hfd cl stt f hs4 hf u Z hNX hu9 hkn (fun H locs ls h hl => ?_) 6 0 H locs ls rfl (Or.inl hfe) h hl
  refine dv_c X hR1 hR2 (by omega) (by omega) hNX.1 hst hNX.2.1 hNX.2.2.1 Z V acts z n m t ac mcs cn hNX.2.2.2.1 hcn d k fd cl hd hk stt f hs4 hf (mnu u 6) cl2 hm6 hcl hc2 h hl (fun H locs ls h hl => ?_)
  exact dv_q0 X hR1 hR2 (by omega) (by omega) hNX.1 hst hNX.2.1 hNX.2.2.1 Z V acts z n m t ac mcs cn hNX.2.2.2.1 hcn d k fd cl2 hd hk stt f hs4 hf (mnu u 6) hm6 hk2 hfd hkn hcv hfe h hl kk

set_option maxHeartbeats 4000000 in
set_option maxRecDepth 100000 in
theorem dv_fd1 (X : Cx p s mth args meth c cL_isDevice yL_isDevice.cls 21 D tc dz A) (hR1 : 13 ≤ R.frames) (hR2 : 410 ≤ R.locals) (hst : l.stackTraces = false) (hcR : cells + 102 ≤ R.cells) (hsR : slots + 42232 ≤ R.slots) (V : Nat → BS) (acts : Nat → Act) (z n m t : Nat) (ac mcs : Nat → Nat) (cn : Nat) (hcn : cn < 59) (Y : Mem) (d k fd : Nat) (hd : d < 6) (hk : k < n) (hk2 : k < 2) (hfd : fd ≤ 8) (cl stt f : Nat) (hs4 : stt ≤ 3) (hf : f < 4) (u : Nat → Int32) (cl2 : Nat) (hcl : cl ≤ 8) (h0 : 0 < stt) (hc2 : (stt = 1 ∧ 1 < mnu u 6 ∧ cl2 = cl + 1) ∨ (¬ (stt = 1 ∧ 1 < mnu u 6) ∧ cl2 = cl)) (Z : Mem) (hNX : NX V acts z n m t ac mcs cn Y Ks gm Z) (hu9 : rw6 (Z (35, 0, 0, 0)) (24 * (10 * d + k) + 6 * f) = u) (hkn : nz (LL Z (9, 0, k, d) 0) = true) (hfe : 4 * k + f = fd) (h : Sx D A ad Ks (lay tc ad gm dz (LL Z)) s H locs) (hl : lv_has ls 21 [(15, .int (nI f)), (14, .int (nI stt)), (13, .int (nI k)), (12, .int (bI true)), (11, .int (nI cl)), (0, .ref (ad (0, 0, 0, 0))), (1, .ref (ad (35, 0, 0, 0))), (2, .ref (ad (37, 0, 0, 0))), (3, .ref (ad (43, 0, 0, 0))), (4, .ref (ad (44, 0, 0, 0))), (5, .ref (ad (41, 0, 0, 0))), (6, .ref (ad (42, 0, 0, 0))), (7, .ref (ad (40, 0, 0, 0))), (8, .ref (ad (45, 0, 0, 0))), (9, .int (nI d)), (10, .int (nI fd))])
  (kk : ∀ (ad1 : KN → Nat) (Ks1 : List KN) (gm1 : GM) (Z1 : Mem) (H1 : Heap) (locs1 : List Loc) (ls1 : Array Slot), NX V acts z n m t ac mcs cn Y Ks1 gm1 Z1 → AEq ad ad1 → Sx D A ad1 Ks1 (lay tc ad1 gm1 dz (LL Z1)) s H1 locs1 → lv_has ls1 21 [(15, .int (nI (f + 1))), (14, .int (nI stt)), (13, .int (nI k)), (12, .int (bI true)), (11, .int (nI cl2)), (0, .ref (ad1 (0, 0, 0, 0))), (1, .ref (ad1 (35, 0, 0, 0))), (2, .ref (ad1 (37, 0, 0, 0))), (3, .ref (ad1 (43, 0, 0, 0))), (4, .ref (ad1 (44, 0, 0, 0))), (5, .ref (ad1 (41, 0, 0, 0))), (6, .ref (ad1 (42, 0, 0, 0))), (7, .ref (ad1 (40, 0, 0, 0))), (8, .ref (ad1 (45, 0, 0, 0))), (9, .int (nI d)), (10, .int (nI fd))] → W p l e R s mth args below meth c H1 locs1 (cells + 102) (slots + 42232) Q (F0 mth 138 ls1 [])) : W p l e R s mth args below meth c H locs cells slots Q (F0 mth 138 ls []) := by
  have hC := hNX.cp (d := d) (k := k) hd (by omega)
  have hm6 := mnu_le u 6
  have hcv : cvF (LL Z (10, 0, k, d)) f = mnu u 6 := by rw [rl_cnF hC hf, ← hu9]; rfl
  refine dv_f0 X hR1 hR2 (by omega) (by omega) hNX.1 hst hNX.2.1 hNX.2.2.1 Z V acts z n m t ac mcs cn hNX.2.2.2.1 hcn d k fd cl hd hk stt f hs4 hf h0 h hl (fun H locs ls h hl => ?_)
  rw [hu9] at hl
  refine dv_of1 X hR1 hR2 hst (by omega) (by omega) V acts z n m t ac mcs cn hcn Y d k fd hd hk hk2 hfd cl stt f hs4 hf u Z hNX hu9 hkn hfe (fun ad1 Ks1 gm1 Z1 H locs ls hNX1 hAE h hl => ?_) 6 0 H locs ls rfl rfl h hl
  have hC1 := hNX1.cp (d := d) (k := k) hd (by omega)
  have e35 : Z1 (35, 0, 0, 0) = Z (35, 0, 0, 0) := (hNX1.zz 35 (by decide)).trans (hNX.zz 35 (by decide)).symm
  have e34 : Z1 (34, 0, 0, 0) = Z (34, 0, 0, 0) := (hNX1.zz 34 (by decide)).trans (hNX.zz 34 (by decide)).symm
  have hkn1 : nz (LL Z1 (9, 0, k, d) 0) = true := by rw [hC1.kn, e34, ← hC.kn]; exact hkn
  have hcv1 : cvF (LL Z1 (10, 0, k, d)) f = mnu u 6 := by rw [rl_cnF hC1 hf, ← hu9, ← e35]; rfl
  refine dv_c X hR1 hR2 (by omega) (by omega) hNX1.1 hst hNX1.2.1 hNX1.2.2.1 Z1 V acts z n m t ac mcs cn hNX1.2.2.2.1 hcn d k fd cl hd hk stt f hs4 hf (mnu u 6) cl2 hm6 hcl hc2 h hl (fun H locs ls h hl => ?_)
  refine dv_q1 X hR1 hR2 (by omega) (by omega) hNX1.1 hst hNX1.2.1 hNX1.2.2.1 Z1 V acts z n m t ac mcs cn hNX1.2.2.2.1 hcn d k fd cl2 hd hk stt f hs4 hf (mnu u 6) hm6 hk2 hfd hkn1 hcv1 hfe Y hNX1.zz h hl (fun ad2 Ks2 gm2 Z2 H locs ls hNX2 hAE2 h hl => ?_)
  exact kk ad2 Ks2 gm2 Z2 H locs ls hNX2 (hAE.trans hAE2) h hl

set_option maxHeartbeats 4000000 in
set_option maxRecDepth 100000 in
theorem dv_fs (X : Cx p s mth args meth c cL_isDevice yL_isDevice.cls 21 D tc dz A) (hR1 : 13 ≤ R.frames) (hR2 : 410 ≤ R.locals) (hst : l.stackTraces = false) (V : Nat → BS) (acts : Nat → Act) (z n m t : Nat) (ac mcs : Nat → Nat) (cn : Nat) (hcn : cn < 59) (Y : Mem) (d k fd : Nat) (hd : d < 6) (hk : k < n) (hk2 : k < 2) (hfd : fd ≤ 8) (cb : Nat) (hcb : cb ≤ 4) (CT ST : Nat) (hCT : CT + va 102 fd (4 * k + 4) ≤ R.cells) (hST : ST + va 42232 fd (4 * k + 4) ≤ R.slots) (h0 : 0 < mstR Y d k m) :
  ∀ (x f : Nat) (ad : KN → Nat) (Ks : List KN) (gm : GM) (Z : Mem) (H : Heap) (locs : List Loc) (ls : Array Slot) (cells slots : Nat), f + x = 4 → NX V acts z n m t ac mcs cn Y Ks gm Z → cells + x + va 102 fd (4 * k + f) ≤ CT + va 102 fd (4 * k + 4) → slots + 6 * x + va 42232 fd (4 * k + f) ≤ ST + va 42232 fd (4 * k + 4) → Sx D A ad Ks (lay tc ad gm dz (LL Z)) s H locs → lv_has ls 21 [(15, .int (nI f)), (14, .int (nI (mstR Y d k m))), (13, .int (nI k)), (12, .int (bI true)), (11, .int (nI (cb + mclE Y d k m f))), (0, .ref (ad (0, 0, 0, 0))), (1, .ref (ad (35, 0, 0, 0))), (2, .ref (ad (37, 0, 0, 0))), (3, .ref (ad (43, 0, 0, 0))), (4, .ref (ad (44, 0, 0, 0))), (5, .ref (ad (41, 0, 0, 0))), (6, .ref (ad (42, 0, 0, 0))), (7, .ref (ad (40, 0, 0, 0))), (8, .ref (ad (45, 0, 0, 0))), (9, .int (nI d)), (10, .int (nI fd))] →
  (∀ (ad1 : KN → Nat) (Ks1 : List KN) (gm1 : GM) (Z1 : Mem) (H1 : Heap) (locs1 : List Loc) (ls1 : Array Slot), NX V acts z n m t ac mcs cn Y Ks1 gm1 Z1 → AEq ad ad1 → Sx D A ad1 Ks1 (lay tc ad1 gm1 dz (LL Z1)) s H1 locs1 → lv_has ls1 21 [(15, .int (nI 4)), (14, .int (nI (mstR Y d k m))), (13, .int (nI k)), (12, .int (bI true)), (11, .int (nI (cb + mclE Y d k m 4))), (0, .ref (ad1 (0, 0, 0, 0))), (1, .ref (ad1 (35, 0, 0, 0))), (2, .ref (ad1 (37, 0, 0, 0))), (3, .ref (ad1 (43, 0, 0, 0))), (4, .ref (ad1 (44, 0, 0, 0))), (5, .ref (ad1 (41, 0, 0, 0))), (6, .ref (ad1 (42, 0, 0, 0))), (7, .ref (ad1 (40, 0, 0, 0))), (8, .ref (ad1 (45, 0, 0, 0))), (9, .int (nI d)), (10, .int (nI fd))] → W p l e R s mth args below meth c H1 locs1 CT ST Q (F0 mth 138 ls1 [])) → W p l e R s mth args below meth c H locs cells slots Q (F0 mth 138 ls []) := by
  intro x
  induction x with
  | zero =>
    intro f ad Ks gm Z H locs ls cells slots hfx hNX hc1 hs1 h hl kk
    have e : f = 4 := hfx
    subst e
    exact W.widen (k := CT) (n := ST) (by omega) (by omega) (kk ad Ks gm Z H locs ls hNX (AEq.refl ad) h hl)
  | succ x ih =>
    intro f ad Ks gm Z H locs ls cells slots hfx hNX hc1 hs1 h hl kk
    have hs4 := mst_le Y d k m
    have hC := hNX.cp (d := d) (k := k) hd (by omega)
    have e35 := hNX.zz 35 (by decide)
    have hkn : nz (LL Z (9, 0, k, d) 0) = true := mst_kn (m := m) hC (by rw [cg_mst hNX.zz]; exact h0)
    have hme := mclE_le (I := Y) (d := d) (k := k) (m := m) f
    have hva := va_le (v := 102) (fd := fd) (q := 4 * k + (f + 1)) (q2 := 4 * k + 4) (by omega)
    have hvb := va_le (v := 42232) (fd := fd) (q := 4 * k + (f + 1)) (q2 := 4 * k + 4) (by omega)
    have hva2 := va_le (v := 102) (fd := fd) (q := 4 * k + f) (q2 := 4 * k + (f + 1)) (by omega)
    have hvb2 := va_le (v := 42232) (fd := fd) (q := 4 * k + f) (q2 := 4 * k + (f + 1)) (by omega)
    have hu9 : rw6 (Z (35, 0, 0, 0)) (24 * (10 * d + k) + 6 * f) = rw6 (Y (35, 0, 0, 0)) (24 * (10 * d + k) + 6 * f) := by rw [e35]
    have hc2 : (mstR Y d k m = 1 ∧ 1 < mnu (rw6 (Y (35, 0, 0, 0)) (24 * (10 * d + k) + 6 * f)) 6 ∧ cb + mclE Y d k m (f + 1) = cb + mclE Y d k m f + 1) ∨ (¬ (mstR Y d k m = 1 ∧ 1 < mnu (rw6 (Y (35, 0, 0, 0)) (24 * (10 * d + k) + 6 * f)) 6) ∧ cb + mclE Y d k m (f + 1) = cb + mclE Y d k m f) := by
      rcases mclE_s Y d k m f with q | q
      · exact Or.inl ⟨q.1, q.2.1, by omega⟩
      · exact Or.inr ⟨q.1, by omega⟩
    by_cases hfe : 4 * k + f = fd
    · have hve := va_eq (v := 102) (fd := fd) (q := 4 * k + f) (q2 := 4 * k + (f + 1)) hfe (by omega) (by omega)
      have hvf := va_eq (v := 42232) (fd := fd) (q := 4 * k + f) (q2 := 4 * k + (f + 1)) hfe (by omega) (by omega)
      refine dv_fd1 X hR1 hR2 hst (by omega) (by omega) V acts z n m t ac mcs cn hcn Y d k fd hd hk hk2 hfd (cb + mclE Y d k m f) (mstR Y d k m) f hs4 (by omega) _ (cb + mclE Y d k m (f + 1)) (by omega) h0 hc2 Z hNX hu9 hkn hfe h hl (fun ad1 Ks1 gm1 Z1 H locs ls hNX1 hAE h hl => ?_)
      exact ih (f + 1) ad1 Ks1 gm1 Z1 H locs ls _ _ (by omega) hNX1 (by omega) (by omega) h hl (fun ad2 Ks2 gm2 Z2 H locs ls hNX2 hAE2 h hl => kk ad2 Ks2 gm2 Z2 H locs ls hNX2 (hAE.trans hAE2) h hl)
    · refine dv_fd0 X hR1 hR2 hst (by omega) (by omega) V acts z n m t ac mcs cn hcn Y d k fd hd hk hk2 hfd (cb + mclE Y d k m f) (mstR Y d k m) f hs4 (by omega) _ (cb + mclE Y d k m (f + 1)) (by omega) h0 hc2 Z hNX hu9 hkn hfe h hl (fun H locs ls h hl => ?_)
      exact ih (f + 1) ad Ks gm Z H locs ls _ _ (by omega) hNX (by omega) (by omega) h hl kk

set_option maxHeartbeats 4000000 in
set_option maxRecDepth 100000 in
theorem dv_en (X : Cx p s mth args meth c cL_isDevice yL_isDevice.cls 21 D tc dz A) (hR1 : 13 ≤ R.frames) (hR2 : 410 ≤ R.locals) (hst : l.stackTraces = false) (V : Nat → BS) (acts : Nat → Act) (z n m t : Nat) (ac mcs : Nat → Nat) (cn : Nat) (hcn : cn < 59) (Y : Mem) (d k fd : Nat) (hd : d < 6) (hk : k < n) (hk2 : k < 2) (hfd : fd ≤ 8) (cb : Nat) (hcb : cb ≤ 4) (CT ST : Nat) (hCT : CT + va 102 fd (4 * k + 4) ≤ R.cells) (hST : ST + va 42232 fd (4 * k + 4) ≤ R.slots) (Z : Mem) (hNX : NX V acts z n m t ac mcs cn Y Ks gm Z) (hc1 : cells + 4 + va 102 fd (4 * k) ≤ CT + va 102 fd (4 * k + 4)) (hs1 : slots + 24 + va 42232 fd (4 * k) ≤ ST + va 42232 fd (4 * k + 4)) (h : Sx D A ad Ks (lay tc ad gm dz (LL Z)) s H locs) (hl : lv_has ls 21 [(13, .int (nI k)), (12, .int (bI true)), (11, .int (nI cb)), (0, .ref (ad (0, 0, 0, 0))), (1, .ref (ad (35, 0, 0, 0))), (2, .ref (ad (37, 0, 0, 0))), (3, .ref (ad (43, 0, 0, 0))), (4, .ref (ad (44, 0, 0, 0))), (5, .ref (ad (41, 0, 0, 0))), (6, .ref (ad (42, 0, 0, 0))), (7, .ref (ad (40, 0, 0, 0))), (8, .ref (ad (45, 0, 0, 0))), (9, .int (nI d)), (10, .int (nI fd))])
  (kk : ∀ (ad1 : KN → Nat) (Ks1 : List KN) (gm1 : GM) (Z1 : Mem) (H1 : Heap) (locs1 : List Loc) (ls1 : Array Slot), NX V acts z n m t ac mcs cn Y Ks1 gm1 Z1 → AEq ad ad1 → Sx D A ad1 Ks1 (lay tc ad1 gm1 dz (LL Z1)) s H1 locs1 → lv_has ls1 21 [(13, .int (nI (k + 1))), (12, .int (bI true)), (11, .int (nI (cb + mclE Y d k m 4))), (0, .ref (ad1 (0, 0, 0, 0))), (1, .ref (ad1 (35, 0, 0, 0))), (2, .ref (ad1 (37, 0, 0, 0))), (3, .ref (ad1 (43, 0, 0, 0))), (4, .ref (ad1 (44, 0, 0, 0))), (5, .ref (ad1 (41, 0, 0, 0))), (6, .ref (ad1 (42, 0, 0, 0))), (7, .ref (ad1 (40, 0, 0, 0))), (8, .ref (ad1 (45, 0, 0, 0))), (9, .int (nI d)), (10, .int (nI fd))] → W p l e R s mth args below meth c H1 locs1 CT ST Q (F0 mth 9 ls1 [])) : W p l e R s mth args below meth c H locs cells slots Q (F0 mth 9 ls []) := by
  have hva := va_le (v := 102) (fd := fd) (q := 4 * k) (q2 := 4 * k + 4) (by omega)
  have hvb := va_le (v := 42232) (fd := fd) (q := 4 * k) (q2 := 4 * k + 4) (by omega)
  have hC := hNX.cp (d := d) (k := k) hd (by omega)
  have hs4 := mst_le Y d k m
  have hs4z := mst_le Z d k m
  have em := cg_mst hNX.zz d k m
  refine dv_9 X hR1 hR2 (by omega) (by omega) hNX.1 hst hNX.2.1 hNX.2.2.1 Z V acts z n m t ac mcs cn hNX.2.2.2.1 hcn d k fd cb hd hk h hl (fun H locs ls h hl => ?_)
  by_cases h0 : mstR Y d k m = 0
  · have e0 : mclE Y d k m 4 = 0 := mclE_z h0 4
    rw [e0, Nat.add_zero] at kk
    refine dv_1z X hR1 hR2 (by omega) (by omega) hNX.1 hst hNX.2.1 hNX.2.2.1 Z V acts z n m t ac mcs cn hNX.2.2.2.1 hcn d k fd cb hd hk (em.trans h0) h hl (fun H locs ls h hl => ?_)
    refine dv_o X hR1 hR2 (by omega) (by omega) hNX.1 hst hNX.2.1 hNX.2.2.1 Z V acts z n m t ac mcs cn hNX.2.2.2.1 hcn d k fd cb hd hk 0 h hl (fun H locs ls h hl => ?_)
    refine dv_fz X hR1 hR2 (by omega) (by omega) hNX.1 hst hNX.2.1 hNX.2.2.1 Z V acts z n m t ac mcs cn hNX.2.2.2.1 hcn d k fd cb hd hk h hl (fun H locs ls h hl => ?_)
    refine dv_m1 X hR1 hR2 (by omega) (by omega) hNX.1 hst hNX.2.1 hNX.2.2.1 Z V acts z n m t ac mcs cn hNX.2.2.2.1 hcn d k fd cb hd hk 0 (by decide) h hl (fun H locs ls h hl => ?_)
    refine dv_m2 X hR1 hR2 (by omega) (by omega) hNX.1 hst hNX.2.1 hNX.2.2.1 Z V acts z n m t ac mcs cn hNX.2.2.2.1 hcn d k fd cb hd hk 0 (by decide) h hl (fun H locs ls h hl => ?_)
    refine dv_m3 X hR1 hR2 (by omega) (by omega) hNX.1 hst hNX.2.1 hNX.2.2.1 Z V acts z n m t ac mcs cn hNX.2.2.2.1 hcn d k fd cb hd hk 0 (by decide) (fun q => absurd q (by decide)) h hl (fun H locs ls h hl => ?_)
    exact W.widen (k := CT) (n := ST) (by omega) (by omega) (kk ad Ks gm Z H locs ls hNX (AEq.refl ad) h hl)
  · have h1 : 0 < mstR Y d k m := by omega
    refine dv_1p X hR1 hR2 (by omega) (by omega) hNX.1 hst hNX.2.1 hNX.2.2.1 Z V acts z n m t ac mcs cn hNX.2.2.2.1 hcn d k fd cb hd hk (by rw [em]; exact h1) h hl (fun H locs ls h hl => ?_)
    rw [em] at hl
    refine dv_o X hR1 hR2 (by omega) (by omega) hNX.1 hst hNX.2.1 hNX.2.2.1 Z V acts z n m t ac mcs cn hNX.2.2.2.1 hcn d k fd cb hd hk (mstR Y d k m) h hl (fun H locs ls h hl => ?_)
    refine dv_fs X hR1 hR2 hst V acts z n m t ac mcs cn hcn Y d k fd hd hk hk2 hfd cb hcb CT ST hCT hST h1 4 0 ad Ks gm Z H locs ls _ _ rfl hNX (by show cells + 4 + va 102 fd (4 * k) ≤ _; omega) (by show slots + 24 + va 42232 fd (4 * k) ≤ _; omega) h hl (fun ad1 Ks1 gm1 Z1 H locs ls hNX1 hAE h hl => ?_)
    have hC1 := hNX1.cp (d := d) (k := k) hd (by omega)
    have hkn1 : nz (LL Z1 (9, 0, k, d) 0) = true := mst_kn (m := m) hC1 (by rw [cg_mst hNX1.zz]; exact h1)
    have hclz := cb + mclE Y d k m 4
    refine dv_f4 X hR1 hR2 (by omega) (by omega) hNX1.1 hst hNX1.2.1 hNX1.2.2.1 Z1 V acts z n m t ac mcs cn hNX1.2.2.2.1 hcn d k fd (cb + mclE Y d k m 4) hd hk (mstR Y d k m) h hl (fun H locs ls h hl => ?_)
    refine dv_m1 X hR1 hR2 (by omega) (by omega) hNX1.1 hst hNX1.2.1 hNX1.2.2.1 Z1 V acts z n m t ac mcs cn hNX1.2.2.2.1 hcn d k fd (cb + mclE Y d k m 4) hd hk (mstR Y d k m) hs4 h hl (fun H locs ls h hl => ?_)
    refine dv_m2 X hR1 hR2 (by omega) (by omega) hNX1.1 hst hNX1.2.1 hNX1.2.2.1 Z1 V acts z n m t ac mcs cn hNX1.2.2.2.1 hcn d k fd (cb + mclE Y d k m 4) hd hk (mstR Y d k m) hs4 h hl (fun H locs ls h hl => ?_)
    refine dv_m3 X hR1 hR2 (by omega) (by omega) hNX1.1 hst hNX1.2.1 hNX1.2.2.1 Z1 V acts z n m t ac mcs cn hNX1.2.2.2.1 hcn d k fd (cb + mclE Y d k m 4) hd hk (mstR Y d k m) hs4 (fun _ => hkn1) h hl (fun H locs ls h hl => ?_)
    exact kk ad1 Ks1 gm1 Z1 H locs ls hNX1 hAE h hl

set_option maxHeartbeats 4000000 in
set_option maxRecDepth 100000 in
theorem dv_es (X : Cx p s mth args meth c cL_isDevice yL_isDevice.cls 21 D tc dz A) (hR1 : 13 ≤ R.frames) (hR2 : 410 ≤ R.locals) (hst : l.stackTraces = false) (V : Nat → BS) (acts : Nat → Act) (z n m t : Nat) (ac mcs : Nat → Nat) (cn : Nat) (hcn : cn < 59) (Y : Mem) (d fd : Nat) (hd : d < 6) (hn2 : n ≤ 2) (hfd : fd ≤ 8) (CT ST : Nat) (hCT : CT ≤ R.cells) (hST : ST ≤ R.slots) :
  ∀ (x k : Nat) (ad : KN → Nat) (Ks : List KN) (gm : GM) (Z : Mem) (H : Heap) (locs : List Loc) (ls : Array Slot) (cells slots : Nat), k + x = n → NX V acts z n m t ac mcs cn Y Ks gm Z → cells + 4 * x + va 102 fd (4 * k) ≤ CT → slots + 24 * x + va 42232 fd (4 * k) ≤ ST → Sx D A ad Ks (lay tc ad gm dz (LL Z)) s H locs → lv_has ls 21 [(13, .int (nI k)), (12, .int (bI true)), (11, .int (nI (mclN Y d m k))), (0, .ref (ad (0, 0, 0, 0))), (1, .ref (ad (35, 0, 0, 0))), (2, .ref (ad (37, 0, 0, 0))), (3, .ref (ad (43, 0, 0, 0))), (4, .ref (ad (44, 0, 0, 0))), (5, .ref (ad (41, 0, 0, 0))), (6, .ref (ad (42, 0, 0, 0))), (7, .ref (ad (40, 0, 0, 0))), (8, .ref (ad (45, 0, 0, 0))), (9, .int (nI d)), (10, .int (nI fd))] →
  (∀ (ad1 : KN → Nat) (Ks1 : List KN) (gm1 : GM) (Z1 : Mem) (H1 : Heap) (locs1 : List Loc) (ls1 : Array Slot), NX V acts z n m t ac mcs cn Y Ks1 gm1 Z1 → AEq ad ad1 → Sx D A ad1 Ks1 (lay tc ad1 gm1 dz (LL Z1)) s H1 locs1 → lv_has ls1 21 [(13, .int (nI n)), (12, .int (bI true)), (11, .int (nI (mclN Y d m n))), (0, .ref (ad1 (0, 0, 0, 0))), (1, .ref (ad1 (35, 0, 0, 0))), (2, .ref (ad1 (37, 0, 0, 0))), (3, .ref (ad1 (43, 0, 0, 0))), (4, .ref (ad1 (44, 0, 0, 0))), (5, .ref (ad1 (41, 0, 0, 0))), (6, .ref (ad1 (42, 0, 0, 0))), (7, .ref (ad1 (40, 0, 0, 0))), (8, .ref (ad1 (45, 0, 0, 0))), (9, .int (nI d)), (10, .int (nI fd))] → W p l e R s mth args below meth c H1 locs1 CT ST Q (F0 mth 9 ls1 [])) → W p l e R s mth args below meth c H locs cells slots Q (F0 mth 9 ls []) := by
  intro x
  induction x with
  | zero =>
    intro k ad Ks gm Z H locs ls cells slots hkx hNX hc1 hs1 h hl kk
    have e : k = n := hkx
    subst e
    exact W.widen (k := CT) (n := ST) (by omega) (by omega) (kk ad Ks gm Z H locs ls hNX (AEq.refl ad) h hl)
  | succ x ih =>
    intro k ad Ks gm Z H locs ls cells slots hkx hNX hc1 hs1 h hl kk
    have hm4 := mclN_le (I := Y) (d := d) (m := m) k
    have hva := va_le (v := 102) (fd := fd) (q := 4 * k) (q2 := 4 * k + 4) (by omega)
    have hvb := va_le (v := 42232) (fd := fd) (q := 4 * k) (q2 := 4 * k + 4) (by omega)
    have e4 : 4 * (k + 1) = 4 * k + 4 := by omega
    refine dv_en X hR1 hR2 hst V acts z n m t ac mcs cn hcn Y d k fd hd (by omega) (by omega) hfd (mclN Y d m k) (by omega) (cells + 4 + (va 102 fd (4 * k) - va 102 fd (4 * k + 4))) (slots + 24 + (va 42232 fd (4 * k) - va 42232 fd (4 * k + 4))) (by omega) (by omega) Z hNX (by omega) (by omega) h hl (fun ad1 Ks1 gm1 Z1 H locs ls hNX1 hAE h hl => ?_)
    exact ih (k + 1) ad1 Ks1 gm1 Z1 H locs ls _ _ (by omega) hNX1 (by rw [e4]; omega) (by rw [e4]; omega) h hl (fun ad2 Ks2 gm2 Z2 H locs ls hNX2 hAE2 h hl => kk ad2 Ks2 gm2 Z2 H locs ls hNX2 (hAE.trans hAE2) h hl)

end SEGS

/-- returns an int, the world another; any room -/
def GK (l : Launch) (y : MethodName) (cc : ByteArray) (maxL : Nat) (ret : Option FieldType) (fr lo mc ms : Nat) (D : va_G) (tc : TC) (dz : Nat) (ad : KN → Nat) (Ks : List KN) (st : KN → va_E) (av : List Value) (P : Int32 → WS → Prop) : Prop :=
  ∀ sz : Nat, Met l y (wsA y cc maxL ret) (rmK fr lo mc ms) (va_Pc av (PreW D tc dz ad Ks st sz)) (va_Qi P (wsB D ad Ks sz) (wA ad Ks sz)) mc ms (wA ad Ks sz)
def OutN (V : Nat → BS) (acts : Nat → Act) (z n m t : Nat) (ac mcs : Nat → Nat) (cn : Nat) (Y : Mem) (tc : TC) (dz : Nat) (ad : KN → Nat) (u : WS) : Prop := ∃ (gm1 : GM) (Z1 : Mem), NX V acts z n m t ac mcs cn Y u.2.1 gm1 Z1 ∧ AEq ad u.1 ∧ u.2.2 = lay tc u.1 gm1 dz (LL Z1)
set_option maxHeartbeats 4000000 in
set_option maxRecDepth 100000 in
theorem m_L_isDevice {l : Launch} {D : va_G} {tc : TC} {dz : Nat} {ad : KN → Nat} {Ks : List KN} {gm : GM} (Y : Mem)  (hst : l.stackTraces = false) (V : Nat → BS) (acts : Nat → Act) (z n m t : Nat) (ac mcs : Nat → Nat) (cn : Nat) (hNX : NX V acts z n m t ac mcs cn Y Ks gm Y) (hcn : cn < 59) (d fd : Nat) (hd : d < 6) (hfd : fd ≤ 8) : GK l yL_isDevice cL_isDevice 21 (Option.some ClassFile.FieldType.boolean) 13 420 (8 + va 102 fd 0) (48 + va 42232 fd 0) D tc dz ad Ks (lay tc ad gm dz (LL Y)) [.ref (ad (0, 0, 0, 0)), .ref (ad (35, 0, 0, 0)), .ref (ad (37, 0, 0, 0)), .ref (ad (43, 0, 0, 0)), .ref (ad (44, 0, 0, 0)), .ref (ad (41, 0, 0, 0)), .ref (ad (42, 0, 0, 0)), .ref (ad (40, 0, 0, 0)), .ref (ad (45, 0, 0, 0)), .int (nI d), .int (nI fd)] (fun r u => r = bI true ∧ OutN V acts z n m t ac mcs cn Y tc dz ad u) := by
  intro sz
  refine x_ofW (by decide +kernel) (Nat.le_of_ble_eq_true rfl) (fun pp ee s mm bel meth cd ls X hr hin hz h hl => ?_)
  subst hz
  have hl : lv_has ls 21 [(0, .ref (ad (0, 0, 0, 0))), (1, .ref (ad (35, 0, 0, 0))), (2, .ref (ad (37, 0, 0, 0))), (3, .ref (ad (43, 0, 0, 0))), (4, .ref (ad (44, 0, 0, 0))), (5, .ref (ad (41, 0, 0, 0))), (6, .ref (ad (42, 0, 0, 0))), (7, .ref (ad (40, 0, 0, 0))), (8, .ref (ad (45, 0, 0, 0))), (9, .int (nI d)), (10, .int (nI fd))] := hl
  have hn2 := hNX.2.2.2.1.2.2.1
  have hcR : 8 + va 102 fd 0 ≤ (rmK 13 420 (8 + va 102 fd 0) (48 + va 42232 fd 0)).cells := Nat.le_refl _
  have hsR : 48 + va 42232 fd 0 ≤ (rmK 13 420 (8 + va 102 fd 0) (48 + va 42232 fd 0)).slots := Nat.le_refl _
  have hR1 : 13 ≤ (rmK 13 420 (8 + va 102 fd 0) (48 + va 42232 fd 0)).frames := Nat.le_refl _
  have hR2 : 410 ≤ (rmK 13 420 (8 + va 102 fd 0) (48 + va 42232 fd 0)).locals := Nat.le_of_ble_eq_true rfl
  refine dv_0 X hR1 hR2 (by omega) (by omega) hNX.1 hst hNX.2.1 hNX.2.2.1 Y V acts z n m t ac mcs cn hNX.2.2.2.1 hcn d fd 0 hd h hl (fun H locs ls h hl => ?_)
  refine dv_es X hR1 hR2 hst V acts z n m t ac mcs cn hcn Y d fd hd hn2 hfd _ _ hcR hsR n 0 ad Ks gm Y H locs ls 0 0 (Nat.zero_add n) hNX (by show 0 + 4 * n + va 102 fd 0 ≤ _; omega) (by show 0 + 24 * n + va 42232 fd 0 ≤ _; omega) h hl (fun ad1 Ks1 gm1 Z1 H locs ls hNX1 hAE h hl => ?_)
  have hm4 := mclN_le (I := Y) (d := d) (m := m) n
  refine dv_n X hR1 hR2 (by omega) (by omega) hNX1.1 hst hNX1.2.1 hNX1.2.2.1 Z1 V acts z n m t ac mcs cn hNX1.2.2.2.1 hcn d fd (mclN Y d m n) hd h hl (fun H locs ls h hl => ?_)
  refine dv_r X hR1 hR2 (by omega) (by omega) hNX1.1 hst hNX1.2.1 hNX1.2.2.1 Z1 V acts z n m t ac mcs cn hNX1.2.2.2.1 hcn d fd (mclN Y d m n) hd (cg_mclN hNX1.zz d m n) (by omega) h hl (fun H locs ls h => ?_)
  exact g_iret X h hr (bI_nar _) ⟨rfl, gm1, Z1, hNX1, hAE, rfl⟩ (Nat.le_refl _) (Nat.le_refl _) dL_isDevice_607
