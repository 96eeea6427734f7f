/-! an entry merged: the law's road and the reference's -/
theorem kc2 {J : Mem} {d k a b : Nat} (hk : k < 2) (h34 : J (34, 0, 0, 0) (10 * d + k) = nI a) (h38 : J (38, 0, 0, 0) (10 * d + k) = nI b) : LL J (43, 0, 0, 0) (2 * d + k) = nI (a + 2 * b) := by
  rw [kc_at hk, h34, h38, nI_mul, nI_add]
def mgA1 (Z : Mem) (d o k : Nat) : Nat := if shB Z d o k then mm1G Z d o k else 0
def jn1 (Z : Mem) (d o k : Nat) : Nat :=
  if Z (34, 0, 0, 0) (10 * d + k) = 0 then (if Z (34, 0, 0, 0) (10 * o + k) = 0 then 0 else if oldR Z d o k then 0 else lgN Z d o k 4)
  else if Z (34, 0, 0, 0) (10 * o + k) = 0 then (if oldR Z o d k then 0 else lgN Z d o k 4) else lgN Z d o k 4
def mgA2 (Z : Mem) (d o k : Nat) : Nat := if shB Z d o k then jn1 Z d o k else 0
theorem NR.see {Z J : Mem} {n m t : Nat} (h : NR Z n m t) (e : ∀ j, j < 3 → J (30, 0, 0, 0) j = Z (30, 0, 0, 0) j) : NR J n m t := ⟨(e 1 (by decide)).trans h.1, (e 0 (by decide)).trans h.2.1, (e 2 (by decide)).trans h.2.2⟩
theorem nr_for {Z : Mem} {n m t d k : Nat} (h : NR Z n m t) : NR (mforM Z d k m) n m t := h.see (fun j _ => by rw [mfor_see (by decide) (by decide) (by decide) (by decide) (by decide) (by decide)])
theorem nr_joi {Z : Mem} {n m t d o k : Nat} (h : NR Z n m t) : NR (joiM Z d o k m) n m t := h.see (fun j hj => joi_30 (by omega))
theorem not_id {Z : Mem} {d o k : Nat} (h1 : Z (38, 0, 0, 0) (10 * d + k) = nI 0) (h2 : Z (38, 0, 0, 0) (10 * o + k) = nI 0) : notM Z d o k = Z := by
  have hn : ntH Z d o k = false := by
    unfold ntH
    rw [h1, h2]
    rfl
  unfold notM
  rw [hn, if_neg (by decide)]
  have e1 : upd (Z (38, 0, 0, 0)) (10 * d + k) (bI false) = Z (38, 0, 0, 0) := by
    rw [show bI false = Z (38, 0, 0, 0) (10 * d + k) from h1.symm]
    exact upd_same (α := Int32) _ _
  have e2 : upd (Z (38, 0, 0, 0)) (10 * o + k) (bI false) = Z (38, 0, 0, 0) := by
    rw [show bI false = Z (38, 0, 0, 0) (10 * o + k) from h2.symm]
    exact upd_same (α := Int32) _ _
  rw [e1, e2, sset_id]
theorem nth_t {Z : Mem} {d o k b1 b2 : Nat} (hb1 : b1 < 2) (hb2 : b2 < 2) (h1 : Z (38, 0, 0, 0) (10 * d + k) = nI b1) (h2 : Z (38, 0, 0, 0) (10 * o + k) = nI b2) (h : 0 < b1 + b2) : ntH Z d o k = true := by
  unfold ntH
  rw [h1, h2]
  rcases (show b1 = 0 ∨ b1 = 1 by omega) with rfl | rfl <;> rcases (show b2 = 0 ∨ b2 = 1 by omega) with rfl | rfl
  · exact absurd h (by decide)
  · rfl
  · rfl
  · rfl

section SEGS
variable {p : Program} {l : Launch} {e : Env} {R : Room} {s : State} {mth : MethodId} {args : Array Value} {below : List Frame} {meth : Method} {c : Code} {H : Heap} {locs : List Loc} {cells slots : Nat} {Q : State → Prop}
variable {D : va_G} {tc : TC} {dz : Nat} {A : Nat → Prop} {ad : KN → Nat} {Ks : List KN} {gm : GM} {ls : Array Slot}

set_option maxHeartbeats 4000000 in
theorem mg_entry (X : Cx p s mth args meth c cL_isMerged yL_isMerged.cls 23 D tc dz A) (hR1 : 12 ≤ R.frames) (hR2 : 400 ≤ R.locals) (hcR : cells ≤ R.cells) (hsR : slots ≤ R.slots) (hL : LV gm Ks) (Z : Mem) (hW : LW gm Ks) (hZ : OKX Z) (n m t : Nat) (hN : NR Z n m t) (hn2 : n ≤ 2) (hm10 : m ≤ 10) (ht9 : t ≤ 2000) (d o k gn gd : Nat) (hd : d < 6) (ho : o < 6) (hk2 : k < 2) (hne : d ≠ o) (h : Sx D A ad Ks (lay tc ad gm dz (LL Z)) s H locs) (hl : lv_has ls 23 [(14, .int (nI k)), (13, .int (nI gd)), (12, .int (nI gn)), (0, .ref (ad (0, 0, 0, 0))), (1, .ref (ad (35, 0, 0, 0))), (2, .ref (ad (37, 0, 0, 0))), (3, .ref (ad (39, 0, 0, 0))), (4, .ref (ad (43, 0, 0, 0))), (5, .ref (ad (44, 0, 0, 0))), (6, .ref (ad (41, 0, 0, 0))), (7, .ref (ad (42, 0, 0, 0))), (8, .ref (ad (40, 0, 0, 0))), (9, .ref (ad (45, 0, 0, 0))), (10, .int (nI d)), (11, .int (nI o))])
    (kk : ∀ (H1 : Heap) (locs1 : List Loc) (ls1 : Array Slot), Sx D A ad Ks (lay tc ad gm dz (LL (mmS Z d o k m))) s H1 locs1 → lv_has ls1 23 [(14, .int (nI k)), (13, .int (nI (gd + mgA2 Z d o k))), (12, .int (nI (gn + mgA1 Z d o k))), (0, .ref (ad (0, 0, 0, 0))), (1, .ref (ad (35, 0, 0, 0))), (2, .ref (ad (37, 0, 0, 0))), (3, .ref (ad (39, 0, 0, 0))), (4, .ref (ad (43, 0, 0, 0))), (5, .ref (ad (44, 0, 0, 0))), (6, .ref (ad (41, 0, 0, 0))), (7, .ref (ad (42, 0, 0, 0))), (8, .ref (ad (40, 0, 0, 0))), (9, .ref (ad (45, 0, 0, 0))), (10, .int (nI d)), (11, .int (nI o))] → W p l e R s mth args below meth c H1 locs1 cells slots Q (F0 mth 458 ls1 [])) : W p l e R s mth args below meth c H locs cells slots Q (F0 mth 78 ls []) := by
  refine sg_are X hR1 hR2 hcR hsR hL Z hW hZ n m t hN hn2 hm10 ht9 d o k gn gd hd ho hk2 hne h hl (fun H locs ls h hl => ?_)
  obtain ⟨ka, kb, hka, hkb, h34, h38, h43⟩ := hZ.k01.at (d := d) hk2
  obtain ⟨oa, ob, hoa, hob, o34, o38, o43⟩ := hZ.k01.at (d := o) hk2
  have z0 : ¬ (nI 1 = (0 : Int32)) := by decide
  have z1 : nI 0 = (0 : Int32) := rfl
  cases hsh : shB Z d o k with
  | false =>
    rw [hsh] at hl
    have eS : mmS Z d o k m = Z := by unfold mmS; rw [hsh, if_neg (by decide)]
    have e1 : mgA1 Z d o k = 0 := by unfold mgA1; rw [hsh, if_neg (by decide)]
    have e2 : mgA2 Z d o k = 0 := by unfold mgA2; rw [hsh, if_neg (by decide)]
    rw [eS, e1, e2] at kk
    rcases (show ka = 0 ∨ ka = 1 by omega) with rfl | rfl <;> rcases (show oa = 0 ∨ oa = 1 by omega) with rfl | rfl
    · refine sg_n00 X hR1 hR2 hcR hsR hL Z hW hZ n m t hN hn2 hm10 ht9 d o k gn gd hd ho hk2 hne kb ob hkb hob h43 o43 h hl (fun H locs ls h hl => ?_)
      refine sg_e_no X hR1 hR2 hcR hsR hL Z hW hZ n m t hN hn2 hm10 ht9 d o k gn gd hd ho hk2 hne h hl (fun H locs ls h hl => ?_)
      exact kk H locs ls h (lv_sub hl [1, 2, 3, 4, 5, 6, 7, 8, 9, 10, 11, 12, 13, 14, 15] rfl)
    · refine sg_n01 X hR1 hR2 hcR hsR hL Z hW hZ n m t hN hn2 hm10 ht9 d o k gn gd hd ho hk2 hne kb ob hkb hob h43 o43 h hl (fun H locs ls h hl => ?_)
      refine sg_e_no X hR1 hR2 hcR hsR hL Z hW hZ n m t hN hn2 hm10 ht9 d o k gn gd hd ho hk2 hne h hl (fun H locs ls h hl => ?_)
      exact kk H locs ls h (lv_sub hl [1, 2, 3, 4, 5, 6, 7, 8, 9, 10, 11, 12, 13, 14, 15] rfl)
    · refine sg_n10 X hR1 hR2 hcR hsR hL Z hW hZ n m t hN hn2 hm10 ht9 d o k gn gd hd ho hk2 hne kb ob hkb hob h43 o43 h hl (fun H locs ls h hl => ?_)
      refine sg_e_no X hR1 hR2 hcR hsR hL Z hW hZ n m t hN hn2 hm10 ht9 d o k gn gd hd ho hk2 hne h hl (fun H locs ls h hl => ?_)
      exact kk H locs ls h (lv_sub hl [1, 2, 3, 4, 5, 6, 7, 8, 9, 10, 11, 12, 13, 14, 15] rfl)
    · refine sg_n11 X hR1 hR2 hcR hsR hL Z hW hZ n m t hN hn2 hm10 ht9 d o k gn gd hd ho hk2 hne kb ob hkb hob h43 o43 h hl (fun H locs ls h hl => ?_)
      refine sg_e_no X hR1 hR2 hcR hsR hL Z hW hZ n m t hN hn2 hm10 ht9 d o k gn gd hd ho hk2 hne h hl (fun H locs ls h hl => ?_)
      exact kk H locs ls h (lv_sub hl [1, 2, 3, 4, 5, 6, 7, 8, 9, 10, 11, 12, 13, 14, 15] rfl)
  | true =>
    rw [hsh] at hl
    have eS : mmS Z d o k m = mm2 (mm1 Z d o k m) d o k := by unfold mmS; rw [hsh, if_pos rfl]
    have e1 : mgA1 Z d o k = mm1G Z d o k := by unfold mgA1; rw [hsh, if_pos rfl]
    have e2 : mgA2 Z d o k = jn1 Z d o k := by unfold mgA2; rw [hsh, if_pos rfl]
    rw [eS, e1, e2] at kk
    unfold mm1 mm1G jn1 at kk
    rw [h34, o34] at kk
    rcases (show ka = 0 ∨ ka = 1 by omega) with rfl | rfl <;> rcases (show oa = 0 ∨ oa = 1 by omega) with rfl | rfl
    · rw [if_pos z1, if_pos z1, if_pos z1, if_pos z1, if_pos z1, if_pos z1] at kk
      refine sg_y00 X hR1 hR2 hcR hsR hL Z hW hZ n m t hN hn2 hm10 ht9 d o k gn gd hd ho hk2 hne kb ob hkb hob h43 o43 h hl (fun H locs ls h hl => ?_)
      have eM : mm2 Z d o k = notM Z d o k := by unfold mm2; rw [h34, o34, if_pos z1, if_pos z1]
      rw [eM] at kk
      by_cases hz : kb = 0 ∧ ob = 0
      · refine sg_e00n X hR1 hR2 hcR hsR hL Z hW hZ n m t hN hn2 hm10 ht9 d o k gn gd hd ho hk2 hne kb ob hkb hob h43 o43 hz h hl (fun H locs ls h hl => ?_)
        rw [not_id (by rw [h38, hz.1]) (by rw [o38, hz.2])] at kk
        exact kk H locs ls h (lv_sub hl [1, 2, 3, 4, 5, 6, 7, 8, 9, 10, 11, 12, 13, 14, 15] rfl)
      · refine sg_e00y X hR1 hR2 hcR hsR hL Z hW hZ n m t hN hn2 hm10 ht9 d o k gn gd hd ho hk2 hne kb ob hkb hob h43 o43 (by omega) h34 o34 (nth_t hkb hob h38 o38 (by omega)) h hl (fun H locs ls h hl => ?_)
        exact kk H locs ls h (lv_sub hl [1, 2, 3, 4, 5, 6, 7, 8, 9, 10, 11, 12, 13, 14, 15] rfl)
    · rw [if_pos z1, if_pos z1, if_pos z1, if_neg z0, if_neg z0, if_neg z0] at kk
      cases hold : oldR Z d o k with
      | true =>
        rw [hold, if_pos rfl, if_pos rfl, if_pos rfl] at kk
        refine sg_y01o X hR1 hR2 hcR hsR hL Z hW hZ n m t hN hn2 hm10 ht9 d o k gn gd hd ho hk2 hne kb ob hkb hob h43 o43 hold h hl (fun H locs ls h hl => ?_)
        obtain ⟨-, -, -, -, r38, r34⟩ := mfo_rows (J := Z) (d := o) (e := k) (m := m)
        have f34d : mforM Z o k m (34, 0, 0, 0) (10 * d + k) = nI 0 := by rw [r34]; rw [ud_ne _ _ (by omega)]; exact h34
        have f34o : mforM Z o k m (34, 0, 0, 0) (10 * o + k) = nI 0 := by rw [r34]; exact ud_eq _ _ _
        have f38d : mforM Z o k m (38, 0, 0, 0) (10 * d + k) = nI kb := by rw [r38]; rw [ud_ne _ _ (by omega)]; exact h38
        have f38o : mforM Z o k m (38, 0, 0, 0) (10 * o + k) = nI 1 := by rw [r38]; exact ud_eq _ _ _
        have eM : mm2 (mforM Z o k m) d o k = notM (mforM Z o k m) d o k := by unfold mm2; rw [f34d, f34o, if_pos z1, if_pos z1]
        rw [eM] at kk
        refine sg_e00y X hR1 hR2 hcR hsR hL (mforM Z o k m) hW (ok_for hZ) n m t (nr_for hN) hn2 hm10 ht9 d o k (gn + 1) gd hd ho hk2 hne kb 1 (by omega) (by omega) (kc2 hk2 f34d f38d) (kc2 hk2 f34o f38o) (by omega) f34d f34o (nth_t (by omega) (by omega) f38d f38o (by omega)) h hl (fun H locs ls h hl => ?_)
        exact kk H locs ls h (lv_sub hl [1, 2, 3, 4, 5, 6, 7, 8, 9, 10, 11, 12, 13, 14, 15] rfl)
      | false =>
        rw [hold, if_neg (by decide), if_neg (by decide), if_neg (by decide)] at kk
        refine sg_y01j X hR1 hR2 hcR hsR hL Z hW hZ n m t hN hn2 hm10 ht9 d o k gn gd hd ho hk2 hne kb ob hkb hob h43 o43 hold h hl (fun H locs ls h hl => ?_)
        have f34d : joiM Z d o k m (34, 0, 0, 0) (10 * d + k) = nI 1 := by rw [joi_34, ud_ne _ _ (by omega), ud_eq]
        have f34o : joiM Z d o k m (34, 0, 0, 0) (10 * o + k) = nI 1 := by rw [joi_34, ud_eq]
        have f38d : joiM Z d o k m (38, 0, 0, 0) (10 * d + k) = nI kb := by rw [joi_see (by decide) (by decide) (by decide) (by decide) (by decide) (by decide)]; exact h38
        have f38o : joiM Z d o k m (38, 0, 0, 0) (10 * o + k) = nI ob := by rw [joi_see (by decide) (by decide) (by decide) (by decide) (by decide) (by decide)]; exact o38
        have eM : mm2 (joiM Z d o k m) d o k = joiM Z d o k m := by unfold mm2; rw [f34d, if_neg z0]
        rw [eM] at kk
        refine sg_e11 X hR1 hR2 hcR hsR hL (joiM Z d o k m) hW (ok_joi hZ) n m t (nr_joi hN) hn2 hm10 ht9 d o k gn (gd + lgN Z d o k 4) hd ho hk2 hne kb ob hkb hob (kc2 hk2 f34d f38d) (kc2 hk2 f34o f38o) h hl (fun H locs ls h hl => ?_)
        exact kk H locs ls h (lv_sub hl [1, 2, 3, 4, 5, 6, 7, 8, 9, 10, 11, 12, 13, 14, 15] rfl)
    · rw [if_neg z0, if_neg z0, if_neg z0, if_pos z1, if_pos z1, if_pos z1] at kk
      cases hold : oldR Z o d k with
      | true =>
        rw [hold, if_pos rfl, if_pos rfl, if_pos rfl] at kk
        refine sg_y10o X hR1 hR2 hcR hsR hL Z hW hZ n m t hN hn2 hm10 ht9 d o k gn gd hd ho hk2 hne kb ob hkb hob h43 o43 hold h hl (fun H locs ls h hl => ?_)
        obtain ⟨-, -, -, -, r38, r34⟩ := mfo_rows (J := Z) (d := d) (e := k) (m := m)
        have f34d : mforM Z d k m (34, 0, 0, 0) (10 * d + k) = nI 0 := by rw [r34]; exact ud_eq _ _ _
        have f34o : mforM Z d k m (34, 0, 0, 0) (10 * o + k) = nI 0 := by rw [r34]; rw [ud_ne _ _ (by omega)]; exact o34
        have f38d : mforM Z d k m (38, 0, 0, 0) (10 * d + k) = nI 1 := by rw [r38]; exact ud_eq _ _ _
        have f38o : mforM Z d k m (38, 0, 0, 0) (10 * o + k) = nI ob := by rw [r38]; rw [ud_ne _ _ (by omega)]; exact o38
        have eM : mm2 (mforM Z d k m) d o k = notM (mforM Z d k m) d o k := by unfold mm2; rw [f34d, f34o, if_pos z1, if_pos z1]
        rw [eM] at kk
        refine sg_e00y X hR1 hR2 hcR hsR hL (mforM Z d k m) hW (ok_for hZ) n m t (nr_for hN) hn2 hm10 ht9 d o k (gn + 1) gd hd ho hk2 hne 1 ob (by omega) (by omega) (kc2 hk2 f34d f38d) (kc2 hk2 f34o f38o) (by omega) f34d f34o (nth_t (by omega) (by omega) f38d f38o (by omega)) h hl (fun H locs ls h hl => ?_)
        exact kk H locs ls h (lv_sub hl [1, 2, 3, 4, 5, 6, 7, 8, 9, 10, 11, 12, 13, 14, 15] rfl)
      | false =>
        rw [hold, if_neg (by decide), if_neg (by decide), if_neg (by decide)] at kk
        refine sg_y10j X hR1 hR2 hcR hsR hL Z hW hZ n m t hN hn2 hm10 ht9 d o k gn gd hd ho hk2 hne kb ob hkb hob h43 o43 hold h hl (fun H locs ls h hl => ?_)
        have f34d : joiM Z d o k m (34, 0, 0, 0) (10 * d + k) = nI 1 := by rw [joi_34, ud_ne _ _ (by omega), ud_eq]
        have f34o : joiM Z d o k m (34, 0, 0, 0) (10 * o + k) = nI 1 := by rw [joi_34, ud_eq]
        have f38d : joiM Z d o k m (38, 0, 0, 0) (10 * d + k) = nI kb := by rw [joi_see (by decide) (by decide) (by decide) (by decide) (by decide) (by decide)]; exact h38
        have f38o : joiM Z d o k m (38, 0, 0, 0) (10 * o + k) = nI ob := by rw [joi_see (by decide) (by decide) (by decide) (by decide) (by decide) (by decide)]; exact o38
        have eM : mm2 (joiM Z d o k m) d o k = joiM Z d o k m := by unfold mm2; rw [f34d, if_neg z0]
        rw [eM] at kk
        refine sg_e11 X hR1 hR2 hcR hsR hL (joiM Z d o k m) hW (ok_joi hZ) n m t (nr_joi hN) hn2 hm10 ht9 d o k gn (gd + lgN Z d o k 4) hd ho hk2 hne kb ob hkb hob (kc2 hk2 f34d f38d) (kc2 hk2 f34o f38o) h hl (fun H locs ls h hl => ?_)
        exact kk H locs ls h (lv_sub hl [1, 2, 3, 4, 5, 6, 7, 8, 9, 10, 11, 12, 13, 14, 15] rfl)
    · rw [if_neg z0, if_neg z0, if_neg z0, if_neg z0, if_neg z0, if_neg z0] at kk
      refine sg_y11 X hR1 hR2 hcR hsR hL Z hW hZ n m t hN hn2 hm10 ht9 d o k gn gd hd ho hk2 hne kb ob hkb hob h43 o43 h hl (fun H locs ls h hl => ?_)
      have f34d : joiM Z d o k m (34, 0, 0, 0) (10 * d + k) = nI 1 := by rw [joi_34, ud_ne _ _ (by omega), ud_eq]
      have f34o : joiM Z d o k m (34, 0, 0, 0) (10 * o + k) = nI 1 := by rw [joi_34, ud_eq]
      have f38d : joiM Z d o k m (38, 0, 0, 0) (10 * d + k) = nI kb := by rw [joi_see (by decide) (by decide) (by decide) (by decide) (by decide) (by decide)]; exact h38
      have f38o : joiM Z d o k m (38, 0, 0, 0) (10 * o + k) = nI ob := by rw [joi_see (by decide) (by decide) (by decide) (by decide) (by decide) (by decide)]; exact o38
      have eM : mm2 (joiM Z d o k m) d o k = joiM Z d o k m := by unfold mm2; rw [f34d, if_neg z0]
      rw [eM] at kk
      refine sg_e11 X hR1 hR2 hcR hsR hL (joiM Z d o k m) hW (ok_joi hZ) n m t (nr_joi hN) hn2 hm10 ht9 d o k gn (gd + lgN Z d o k 4) hd ho hk2 hne kb ob hkb hob (kc2 hk2 f34d f38d) (kc2 hk2 f34o f38o) h hl (fun H locs ls h hl => ?_)
      exact kk H locs ls h (lv_sub hl [1, 2, 3, 4, 5, 6, 7, 8, 9, 10, 11, 12, 13, 14, 15] rfl)
end SEGS
/-- what all entries gain -/
def mgN (I : Mem) (d o m : Nat) : Nat → Nat
  | 0 => 0
  | k + 1 => mgN I d o m k + mgA2 (mmM I d o m k) d o k
theorem jn1_le (Z : Mem) (d o k : Nat) : jn1 Z d o k ≤ 48 := by
  have := lgN_le Z d o k 4
  unfold jn1
  by_cases a : Z (34, 0, 0, 0) (10 * d + k) = 0
  · rw [if_pos a]
    by_cases b : Z (34, 0, 0, 0) (10 * o + k) = 0
    · rw [if_pos b]; omega
    · rw [if_neg b]
      by_cases c : oldR Z d o k = true
      · rw [if_pos c]; omega
      · rw [if_neg c]; omega
  · rw [if_neg a]
    by_cases b : Z (34, 0, 0, 0) (10 * o + k) = 0
    · rw [if_pos b]
      by_cases c : oldR Z o d k = true
      · rw [if_pos c]; omega
      · rw [if_neg c]; omega
    · rw [if_neg b]; omega
theorem mgA2_le (Z : Mem) (d o k : Nat) : mgA2 Z d o k ≤ 48 := by
  unfold mgA2
  by_cases a : shB Z d o k = true
  · rw [if_pos a]; exact jn1_le Z d o k
  · rw [if_neg a]; omega
theorem mgN_le (I : Mem) (d o m : Nat) : ∀ k, mgN I d o m k ≤ 48 * k
  | 0 => Nat.le_refl 0
  | k + 1 => by
    have h1 := mgN_le I d o m k
    have h2 := mgA2_le (mmM I d o m k) d o k
    rw [mgN]
    omega
theorem mm1_gn {Z : Mem} {d o k m : Nat} (hB : BR Z) (hk : k < 2) (hne : d ≠ o) : mm1 Z d o k m (30, 0, 0, 0) 3 = Z (30, 0, 0, 0) 3 + nI (jn1 Z d o k) := by
  have h0 : Z (30, 0, 0, 0) 3 = Z (30, 0, 0, 0) 3 + nI 0 := (Int32.add_zero _).symm
  unfold mm1 jn1
  by_cases a : Z (34, 0, 0, 0) (10 * d + k) = 0
  · rw [if_pos a, if_pos a]
    by_cases b : Z (34, 0, 0, 0) (10 * o + k) = 0
    · rw [if_pos b, if_pos b]; exact h0
    · rw [if_neg b, if_neg b]
      by_cases c : oldR Z d o k = true
      · rw [if_pos c, if_pos c, mfor_see (by decide) (by decide) (by decide) (by decide) (by decide) (by decide)]; exact h0
      · rw [if_neg c, if_neg c]; exact joi_gn hB hk hne
  · rw [if_neg a, if_neg a]
    by_cases b : Z (34, 0, 0, 0) (10 * o + k) = 0
    · rw [if_pos b, if_pos b]
      by_cases c : oldR Z o d k = true
      · rw [if_pos c, if_pos c, mfor_see (by decide) (by decide) (by decide) (by decide) (by decide) (by decide)]; exact h0
      · rw [if_neg c, if_neg c]; exact joi_gn hB hk hne
    · rw [if_neg b, if_neg b]; exact joi_gn hB hk hne
theorem mmS_gn {Z : Mem} {d o k m : Nat} (hB : BR Z) (hk : k < 2) (hne : d ≠ o) : mmS Z d o k m (30, 0, 0, 0) 3 = Z (30, 0, 0, 0) 3 + nI (mgA2 Z d o k) := by
  unfold mmS mgA2
  by_cases a : shB Z d o k = true
  · rw [if_pos a, if_pos a, mm2_30, mm1_gn hB hk hne]
  · rw [if_neg a, if_neg a]; exact (Int32.add_zero _).symm
theorem mm_gn {I : Mem} {d o m : Nat} (hI : OKX I) (hne : d ≠ o) : ∀ k, k ≤ 2 → mmM I d o m k (30, 0, 0, 0) 3 = nI (mgN I d o m k)
  | 0, _ => by
    rw [mmM, sset_eq, ud_eq]
    rfl
  | k + 1, hk => by
    rw [mmM, mmS_gn (ok_mm hI k).1 (by omega) hne, mm_gn hI hne k (by omega), nI_add, mgN]
theorem mmG_s {I : Mem} {d o m k : Nat} : mmG I d o m (k + 1) = mmG I d o m k + mgA1 (mmM I d o m k) d o k := rfl

