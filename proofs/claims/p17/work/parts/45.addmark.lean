theorem y_joinG {p : Program} {l : Launch} {e : Env} {R : Room} {s : State} {m : MethodId} {args : Array Value} {below : List Frame} {meth : Method} {c : Code} {H : Heap} {locs : List Loc} {cells slots : Nat} {Q : State → Prop} {nL : Nat} {D : va_G} {A : Nat → Prop} {σ : Type} (pc1 : Nat) (uF : σ → WS) (lvF : σ → List (Nat × Value)) (skF : σ → List Value) (cF sF : σ → Nat) (ok : σ → Prop) {g : JFrame}
    (k1 : (∀ x, ok x → ∀ (H : Heap) (locs : List Loc) (ls : Array Slot), Sx D A (uF x).1 (uF x).2.1 (uF x).2.2 s H locs → lv_has ls nL (lvF x) → W p l e R s m args below meth c H locs (cF x) (sF x) Q (F0 m pc1 ls (skF x))) → W p l e R s m args below meth c H locs cells slots Q g)
    (k2 : ∀ x, ok x → ∀ (H : Heap) (locs : List Loc) (ls : Array Slot), Sx D A (uF x).1 (uF x).2.1 (uF x).2.2 s H locs → lv_has ls nL (lvF x) → W p l e R s m args below meth c H locs (cF x) (sF x) Q (F0 m pc1 ls (skF x))) : W p l e R s m args below meth c H locs cells slots Q g := k1 k2
theorem markM_see {I : Mem} {b e j d : Nat} {month : Int32} {k : KN} (h18 : k.1 ≠ 18) (h19 : k.1 ≠ 19) : markM I b e j d month k = I k := by
  unfold markM
  rw [sset_ne _ _ (fun q => h19 (by rw [q])), sset_ne _ _ (fun q => h18 (by rw [q]))]
theorem no52 {gm : GM} {Ks : List KN} (h : LW gm Ks) (b e : Nat) : (52, b, e, 0) ∉ Ks := fun q => by
  have := h _ q
  have h2 : ((20 ≤ 52 ∧ 52 ≤ 25) ∨ (52 : Nat) = 35 ∨ (52 : Nat) = 37 ∨ (39 ≤ 52 ∧ 52 ≤ 45)) ∧ b = 0 ∧ e = 0 ∧ 0 = 0 := this
  omega

set_option maxHeartbeats 4000000 in
set_option maxRecDepth 100000 in
theorem m_X2_addMark {l : Launch} {D : va_G} {tc : TC} {dz : Nat} {ad0 : KN → Nat} {Ks0 : List KN} {gm0 : GM} (I0 : Mem) (b e d mc : Nat) (month : Int32) (hL0 : LV gm0 Ks0) (hW0 : LW gm0 Ks0) (hG0 : GM2 gm0) (hb2 : b < 2) (he : e < 10) (hd : d < 6) (hmc0 : I0 (4, b, e, 0) 1 = nI mc) (hml : mc ≤ (gm0 b e).1) (hmb : mc < 600) :
    GV l yX2_addMark cX2_addMark 3 8 (if mc < (gm0 b e).1 then 0 else 5) (if mc < (gm0 b e).1 then 0 else 2 * (gm0 b e).1 + 43) D tc dz ad0 Ks0 (lay tc ad0 gm0 dz I0) [.ref (ad0 (4, b, e, 0)), .int (nI d), .int month] (GrP tc dz gm0 b e (max (gm0 b e).1 (mc + 1)) (addM I0 b e d mc month) ad0 Ks0) := by
  intro sz
  refine x_ofW (by decide +kernel) (Nat.le_of_ble_eq_true rfl) (fun pp ee s mm bel meth cd ls X hr hin hz h hl => ?_)
  subst hz
  obtain ⟨hx, hb, hmaxL, hown, hts⟩ := id X.1
  have hl : lv_has ls 3 [(0, .ref (ad0 (4, b, e, 0))), (1, .int (nI d)), (2, .int month)] := hl
  refine y_joinG (D := D) (A := wA ad0 Ks0 s.heap.size) (nL := 3) (σ := (KN → Nat) × List KN × GM × Mem × Nat × Nat) 29 (fun x => (x.1, x.2.1, lay tc x.1 x.2.2.1 dz x.2.2.2.1)) (fun x => [(0, .ref (x.1 (4, b, e, 0))), (1, .int (nI d)), (2, .int month)]) (fun _ => []) (fun x => x.2.2.2.2.1) (fun x => x.2.2.2.2.2) (fun x => LV x.2.2.1 x.2.1 ∧ GMok x.2.2.1 ∧ x.2.2.2.1 (4, b, e, 0) 1 = nI mc ∧ mc < (x.2.2.1 b e).1 ∧ GrP tc dz gm0 b e (max (gm0 b e).1 (mc + 1)) (addM I0 b e d mc month) ad0 Ks0 (x.1, x.2.1, lay tc x.1 x.2.2.1 dz (addM x.2.2.2.1 b e d mc month)) ∧ x.2.2.2.2.1 ≤ (if mc < (gm0 b e).1 then 0 else 5) ∧ x.2.2.2.2.2 ≤ (if mc < (gm0 b e).1 then 0 else 2 * (gm0 b e).1 + 43)) (fun jn => ?_) (fun x hok H locs ls h hl => ?_)
  · have hL := hL0
    have hG := hG0.ok
    have hgb := hG0 b e
    refine lv_aload_n hx hb dX2_addMark_0 rfl (lv_at hl 0 rfl) ?_
    refine gf_Entry_markCount X h (hL0 (4, b, e, 0) ⟨by omega, by omega, rfl⟩) q130 (v := nI mc) hmc0 dX2_addMark_1 ?_
    refine lv_aload_n hx hb dX2_addMark_4 rfl (lv_at hl 0 rfl) ?_
    refine gf_Entry_marks X h (hL0 (4, b, e, 0) ⟨by omega, by omega, rfl⟩) q136 dX2_addMark_5 ?_
    refine x_doneI X h (x_runV X h (k := (7, b, e, 0)) (m_Jx4a65c_size_8abf5 I0 b e hL0 hG (by omega) (by omega) _) F_Jx4a65c_size_8abf5 q288 q289 q290 (hL0 (7, b, e, 0) ⟨by omega, by omega, rfl⟩) rfl rfl rfl (Nat.le_of_ble_eq_true rfl) (Nat.le_of_ble_eq_true rfl) ⟨Nat.zero_le _, Nat.zero_le _⟩ hl.1 (Nat.le_of_ble_eq_true rfl) dX2_addMark_8 rfl) (fun H locs h => ?_)
    refine n_icmp_lt (tgt := 29) hx hb (by omega) (by omega) dX2_addMark_11 (by decide) (fun c11 => ?_) (fun c11 => ?_)
    · refine jn (ad0, Ks0, gm0, I0, 0, 0) ⟨hL0, hG, hmc0, c11, ⟨gm0, addM I0 b e d mc month (7, b, e, 0), fun _ _ _ => rfl, (Nat.max_eq_left c11).symm, hG0, ?_, hL0, hW0, fun _ _ _ => rfl⟩, Nat.zero_le _, Nat.zero_le _⟩ _ _ _ h hl
      intro k _
      rw [sset_id]
    · have hmg : mc = (gm0 b e).1 := by omega
      have eC : (if mc < (gm0 b e).1 then 0 else 5) = 5 := if_neg (by omega)
      have eS : (if mc < (gm0 b e).1 then 0 else 2 * (gm0 b e).1 + 43) = 2 * (gm0 b e).1 + 43 := if_neg (by omega)
      rw [eC, eS]
      rw [eC, eS] at jn
      have hnm : ∀ n, 16 ≤ n → n ≤ 19 → (n, b, e, (gm0 b e).1) ∉ Ks0 := by
        intro n h1 h2 q
        have := hW0 _ q
        rcases (show n = 16 ∨ n = 17 ∨ n = 18 ∨ n = 19 by omega) with rfl | rfl | rfl | rfl <;> exact absurd this.2.2 (Nat.lt_irrefl _)
      have m4 : (4, b, e, 0) ∈ Ks0 := hL0 _ ⟨hb2, he, rfl⟩
      have m7 : (7, b, e, 0) ∈ Ks0 := hL0 _ ⟨hb2, he, rfl⟩
      refine lv_aload_n hx hb dX2_addMark_14 rfl (lv_at hl 0 rfl) ?_
      refine gf_Entry_marks X h m4 q136 dX2_addMark_15 ?_
      refine r_new X h (k := (16, b, e, (gm0 b e).1)) (hnm 16 (by decide) (by decide)) (ci := 5) (fs := [.null, .null]) rfl inX4 tyX4_ok q306 q495 q21 dfX4 (by show 0 + 0 + 1 ≤ 5; decide) (by show 0 + 0 + 2 ≤ 2 * (gm0 b e).1 + 43; omega) dX2_addMark_18 (fun ad1 H a1 ta1 hn1 h => ?_)
      obtain ⟨Ks1, st1, h, tm1, tf1, kp, w⟩ := w_step (L := LK) (self := (4, b, e, 0)) h (WF.start (L := LK) (tc := tc) (dz := dz) (ad0 := ad0) (Ks0 := Ks0) (st0 := lay tc ad0 gm0 dz I0)) id (hnm 16 (by decide) (by decide)) (by simp [LK]) hn1
      refine lv_dup hx hb dX2_addMark_21 rfl ?_
      have hfr : ∀ k2, nwM b e (gm0 b e).1 k2 → k2 ∉ Ks1 := fun k2 z => w.fresh (by obtain ⟨n2, b2, e2, d2⟩ := k2; unfold nwM at z; simp only [Prod.mk.injEq, or_false, false_or] at z ⊢; omega) (by obtain ⟨n2, b2, e2, d2⟩ := k2; obtain ⟨z1, z2, z3, z4, z5⟩ := z; simp only at z1 z2 z3 z4 z5; subst z1 z2 z3; exact hnm _ (by omega) z5)
      refine g_doneV X h (g_runIN X h (b := a1) (by rw [ta1]; exact m_X4_init b e (gm0 b e).1 tf1 tm1 hfr _) F_X4_init t496 q497 rfl rfl (Nat.le_of_ble_eq_true rfl) (Nat.le_of_ble_eq_true rfl) ⟨by show 0 + 0 + 1 + 3 ≤ 5; decide, by show 0 + 0 + 2 + 31 ≤ 2 * (gm0 b e).1 + 43; omega⟩ hl.1 (Nat.le_of_ble_eq_true rfl) dX2_addMark_22 rfl) (fun u H locs hP1 h => ?_)
      obtain ⟨ad2, Ks2, st2⟩ := u
      have h : Sx D (wA ad0 Ks0 s.heap.size) ad2 Ks2 st2 s H locs := h
      have kp2 := w_sub hP1 hfr
      have hw1 := hP1.1.1
      have hw4 := hP1.1.2.2.2
      have ta1 := ta1.trans (kp2 _ tm1).1.symm
      have tf1 : st2 (16, b, e, (gm0 b e).1) = .inr (5, [.ref (ad2 (17, b, e, (gm0 b e).1)), .ref (ad2 (19, b, e, (gm0 b e).1))]) := hP1.2
      have tm1 := (kp2 _ tm1).2.1
      have hne16 : ∀ k, k ∈ Ks0 → k ≠ (16, b, e, (gm0 b e).1) := fun k q z => hnm 16 (by decide) (by decide) (z ▸ q)
      have hA2 : ∀ k, k ∈ Ks0 → ad2 k = ad0 k := fun k q => (kp2 k (kp k q).2.1).1.trans (kp k q).1
      have hM2 : ∀ k, k ∈ Ks0 → k ∈ Ks2 := fun k q => (kp2 k (kp k q).2.1).2.1
      have hS2 : ∀ k, k ∈ Ks0 → st2 k = lay tc ad0 gm0 dz I0 k := fun k q => ((kp2 k (kp k q).2.1).2.2 (hne16 k q)).trans (kp k q).2.2
      have hK2 : ∀ k, k ∈ Ks2 ↔ (nwM b e (gm0 b e).1 k ∨ k = (16, b, e, (gm0 b e).1) ∨ k ∈ Ks0) := fun k => by
        have q1 := hP1.1.2.1 k
        have q2 := w.2.1 k
        rw [show k ∈ Ks2 ↔ _ from q1, show k ∈ Ks1 ↔ _ from q2]
        simp only [or_false]
      have h52a : (52, b, e, 0) ∉ Ks2 := fun q => by
        rcases (hK2 _).mp q with q | q | q
        · exact absurd q.2.2.2.2 (by simp)
        · simp at q
        · exact no52 hW0 b e q
      have hs7 : st2 (7, b, e, 0) = .inr (0, [.int (I0 (7, b, e, 0) 0), .ref (if (gm0 b e).2 = 0 then dz else ad2 (8, b, e, 0)), .int (nI (gm0 b e).1)]) := by
        rw [hS2 _ m7]
        show Sum.inr (0, [Value.int (I0 (7, b, e, 0) 0), Value.ref (if (gm0 b e).2 = 0 then dz else ad0 (8, b, e, 0)), Value.int (nI (gm0 b e).1)]) = _
        by_cases hz : (gm0 b e).2 = 0
        · rw [if_pos hz, if_pos hz]
        · rw [if_neg hz, if_neg hz, hA2 _ (hL0 (8, b, e, 0) ⟨hb2, he, rfl, by omega⟩)]
      have hFJ : FJ ad2 b e (gm0 b e).1 = fun j => if j < (gm0 b e).1 then some (ad0 (16, b, e, j)) else none := by
        funext j
        unfold FJ
        by_cases hj : j < (gm0 b e).1
        · rw [if_pos hj, if_pos hj, hA2 _ (hL0 (16, b, e, j) ⟨hb2, he, hj⟩)]
        · rw [if_neg hj, if_neg hj]
      have h8a : 0 < (gm0 b e).2 → (8, b, e, 0) ∈ Ks2 ∧ st2 (8, b, e, 0) = .inl (tc 6, (gm0 b e).2, .inr (.inr (.inr (.inr (FJ ad2 b e (gm0 b e).1))))) := fun q => ⟨hM2 _ (hL0 (8, b, e, 0) ⟨hb2, he, rfl, q⟩), by rw [hS2 _ (hL0 (8, b, e, 0) ⟨hb2, he, rfl, q⟩), hFJ]; rfl⟩
      have h80 : (gm0 b e).2 = 0 → (8, b, e, 0) ∉ Ks2 := fun hz q => by
        rcases (hK2 _).mp q with q | q | q
        · exact absurd q.2.2.2.1 (by simp)
        · simp at q
        · have := (hW0 _ q).2.2.2; omega
      have hmk : ∀ j, j < (gm0 b e).1 → (16, b, e, j) ∈ Ks2 ∧ ∃ fs, st2 (16, b, e, j) = .inr (5, fs) := fun j hj => by
        have q := hL0 (16, b, e, j) ⟨hb2, he, hj⟩
        exact ⟨hM2 _ q, _, hS2 _ q⟩
      have e7 : ad0 (7, b, e, 0) = ad2 (7, b, e, 0) := (hA2 _ m7).symm
      refine g_doneI X h (x_runV X h (k := (7, b, e, 0)) (m_add b e (gm0 b e).1 (gm0 b e).2 (I0 (7, b, e, 0) 0) (hM2 _ m7) hs7 hgb.1 hgb.2.1 (by omega) h8a h80 h52a hmk tm1 _ tf1 _) F_Jx4a65c_add_9ea2d q511 q512 q513 (hM2 _ m7) hs7 rfl rfl (Nat.le_of_ble_eq_true rfl) (Nat.le_of_ble_eq_true rfl) ⟨by show 0 + 0 + 1 + 3 + 1 ≤ 5; decide, by show 0 + 0 + 2 + 31 + (2 * (gm0 b e).1 + 10) ≤ 2 * (gm0 b e).1 + 43; omega⟩ hl.1 (Nat.le_of_ble_eq_true rfl) dX2_addMark_25 (by rw [e7, ta1]; rfl)) (fun r u H locs hP2 h => ?_)
      obtain ⟨ad3, Ks3, st3⟩ := u
      obtain ⟨rfl, c2, hc1, hc2, hn3, hK3, hso3, hf7, hf8⟩ := hP2
      have hn3 : ∀ k, k ≠ (8, b, e, 0) → ad3 k = ad2 k := hn3
      have hK3 : ∀ k, k ∈ Ks3 ↔ (k = (8, b, e, 0) ∨ k ∈ Ks2) := hK3
      have hso3 : ∀ k, k ≠ (7, b, e, 0) → k ≠ (8, b, e, 0) → st3 k = st2 k := hso3
      have h : Sx D (wA ad0 Ks0 s.heap.size) ad3 Ks3 st3 s H locs := h
      refine lv_pop hx hb dX2_addMark_28 rfl ?_
      have hn17 := (hw4 (17, b, e, (gm0 b e).1) ⟨rfl, rfl, rfl, by simp, by simp⟩).2.1
      have hn18 := (hw4 (18, b, e, (gm0 b e).1) ⟨rfl, rfl, rfl, by simp, by simp⟩).2.1
      have hn19 := (hw4 (19, b, e, (gm0 b e).1) ⟨rfl, rfl, rfl, by simp, by simp⟩).2.1
      have hGL := grow_lay (tc := tc) (dz := dz) (I := I0) (ad := ad0) (ad1 := ad3) (Ks1 := Ks3) (st1 := st3) hL0 hW0 hb2 he hc1
        (fun k q8 q16 q17 q18 q19 => (hn3 k q8).trans ((hw1 k (fun z => by
          obtain ⟨n2, b2, e2, d2⟩ := k
          obtain ⟨z1, z2, z3, z4, z5⟩ := z
          simp only at z1 z2 z3 z4 z5
          rcases (show n2 = 17 ∨ n2 = 18 ∨ n2 = 19 by omega) with z | z | z
          · exact q17 (by rw [z, z1, z2, z3])
          · exact q18 (by rw [z, z1, z2, z3])
          · exact q19 (by rw [z, z1, z2, z3]))).trans (hn1 k q16)))
        (fun k => by
          rw [hK3, hK2]
          obtain ⟨n2, b2, e2, d2⟩ := k
          unfold nwM
          simp only [Prod.mk.injEq]
          constructor
          · rintro (q | q | q | q)
            · exact Or.inl q
            · obtain ⟨q1, q2, q3, q4, q5⟩ := q
              rcases (show n2 = 17 ∨ n2 = 18 ∨ n2 = 19 by omega) with z | z | z
              · exact Or.inr (Or.inr (Or.inl ⟨z, q1, q2, q3⟩))
              · exact Or.inr (Or.inr (Or.inr (Or.inl ⟨z, q1, q2, q3⟩)))
              · exact Or.inr (Or.inr (Or.inr (Or.inr (Or.inl ⟨z, q1, q2, q3⟩))))
            · exact Or.inr (Or.inl q)
            · exact Or.inr (Or.inr (Or.inr (Or.inr (Or.inr q))))
          · rintro (q | q | q | q | q | q)
            · exact Or.inl q
            · exact Or.inr (Or.inr (Or.inl q))
            · exact Or.inr (Or.inl ⟨q.2.1, q.2.2.1, q.2.2.2, by omega, by omega⟩)
            · exact Or.inr (Or.inl ⟨q.2.1, q.2.2.1, q.2.2.2, by omega, by omega⟩)
            · exact Or.inr (Or.inl ⟨q.2.1, q.2.2.1, q.2.2.2, by omega, by omega⟩)
            · exact Or.inr (Or.inr (Or.inr q)))
        (fun k q q7 q8 => (hso3 k q7 q8).trans (hS2 k q))
        (by rw [hso3 _ (nek (by decide)) (nek (by decide)), tf1, hn3 (17, b, e, (gm0 b e).1) (nek (by decide)), hn3 (19, b, e, (gm0 b e).1) (nek (by decide))])
        (by rw [hso3 _ (nek (by decide)) (nek (by decide)), hn3 (18, b, e, (gm0 b e).1) (nek (by decide))]; exact hn17)
        (by rw [hso3 _ (nek (by decide)) (nek (by decide))]; exact hn18)
        (by rw [hso3 _ (nek (by decide)) (nek (by decide))]; exact hn19)
        hf7 hf8
      obtain ⟨gm9, hgm9⟩ : ∃ z, z = gset gm0 b e ((gm0 b e).1 + 1, c2) := ⟨_, rfl⟩
      obtain ⟨I9, hI9⟩ : ∃ z : Mem, z = sset (sset (sset I0 (18, b, e, (gm0 b e).1) (fun _ => 0)) (19, b, e, (gm0 b e).1) (fun _ => 0)) (7, b, e, 0) (upd (I0 (7, b, e, 0)) 0 (I0 (7, b, e, 0) 0 + nI 1)) := ⟨_, rfl⟩
      rw [← hgm9, ← hI9] at hGL
      obtain ⟨hGL1, hGL2, hGL3⟩ := hGL
      have h := h.congr hGL1
      have hA3 : ∀ k, k ∈ Ks0 → k.1 ≠ 8 → ad3 k = ad0 k := fun k q q8 => (hn3 k (fun z => q8 (by rw [z]))).trans (hA2 k q)
      have hg1 : gm9 b e = ((gm0 b e).1 + 1, c2) := by rw [hgm9]; exact gset_eq gm0 b e ((gm0 b e).1 + 1, c2)
      have hgo : ∀ b2 e2, ¬ (b2 = b ∧ e2 = e) → gm9 b2 e2 = gm0 b2 e2 := fun b2 e2 q => by rw [hgm9]; exact gset_ne _ _ q
      have hGM9 : GM2 gm9 := by
        intro b2 e2
        by_cases q : b2 = b ∧ e2 = e
        · rw [q.1, q.2, hg1]
          show (gm0 b e).1 + 1 ≤ c2 ∧ c2 ≤ 2 * ((gm0 b e).1 + 1) + 10 ∧ (gm0 b e).1 + 1 ≤ 600
          omega
        · rw [hgo _ _ q]
          exact hG0 b2 e2
      have hI94 : I9 (4, b, e, 0) = I0 (4, b, e, 0) := by
        rw [hI9, sset_ne _ _ (nek (by decide)), sset_ne _ _ (nek (by decide)), sset_ne _ _ (nek (by decide))]
      have hl : lv_has ls 3 [(0, .ref (ad3 (4, b, e, 0))), (1, .int (nI d)), (2, .int month)] := by rw [hA3 _ m4 (by exact Nat.ne_of_beq_eq_false rfl)]; exact hl
      refine W.widen (k := 5) (n := 2 * (gm0 b e).1 + 43) (by decide) (by omega) ?_
      refine jn (ad3, Ks3, gm9, I9, 5, 2 * (gm0 b e).1 + 43) ⟨hGL2, hGM9.ok, (congrFun hI94 1).trans hmc0, by show mc < (gm9 b e).1; rw [hg1]; show mc < (gm0 b e).1 + 1; omega, ⟨gm9, I9 (7, b, e, 0), hgo, by rw [hg1]; show (gm0 b e).1 + 1 = max (gm0 b e).1 (mc + 1); omega, hGM9, ?_, hGL2, hGL3, hA3⟩, Nat.le_refl _, Nat.le_refl _⟩ _ _ _ h hl
      intro k _
      refine congrFun (congrArg (lay tc ad3 gm9 dz) ?_) k
      show addM I9 b e d mc month = sset (addM I0 b e d mc month) (7, b, e, 0) (I9 (7, b, e, 0))
      rw [hI9, ← hmg]
      · funext nn
        by_cases q4 : nn = (4, b, e, 0)
        · subst q4
          unfold addM
          rw [sset_eq, sset_ne _ _ (nek (by decide) : ((4, b, e, 0) : KN) ≠ (7, b, e, 0)), sset_eq, sset_ne _ _ (nek (by decide) : ((4, b, e, 0) : KN) ≠ (7, b, e, 0)), sset_ne _ _ (nek (by decide) : ((4, b, e, 0) : KN) ≠ (19, b, e, mc)), sset_ne _ _ (nek (by decide) : ((4, b, e, 0) : KN) ≠ (18, b, e, mc)), sset_eq]
        · by_cases q7 : nn = (7, b, e, 0)
          · subst q7
            unfold addM
            rw [sset_ne _ _ q4, markM_see (by exact Nat.ne_of_beq_eq_false rfl) (by exact Nat.ne_of_beq_eq_false rfl), sset_eq, sset_eq]
          · unfold addM markM
            rw [sset_ne _ _ q4, sset_ne _ _ q7, sset_ne _ _ q4]
            by_cases q19 : nn = (19, b, e, mc)
            · subst q19
              rw [sset_eq, sset_eq]
            · rw [sset_ne _ _ q19, sset_ne _ _ q19]
              by_cases q18 : nn = (18, b, e, mc)
              · subst q18
                rw [sset_eq, sset_eq, sset_ne _ _ (nek (by decide) : ((13, b, e, d) : KN) ≠ (7, b, e, 0)), sset_ne _ _ (nek (by decide) : ((13, b, e, d) : KN) ≠ (19, b, e, mc)), sset_ne _ _ (nek (by decide) : ((13, b, e, d) : KN) ≠ (18, b, e, mc))]
              · rw [sset_ne _ _ q18, sset_ne _ _ q18, sset_ne _ _ q7, sset_ne _ _ q19, sset_ne _ _ q18]
  · obtain ⟨ad, Ks, gm, I, cells, slots⟩ := x
    obtain ⟨hL, hG, hmc, hlt, hP, hc, hs⟩ := hok
    have h : Sx D (wA ad0 Ks0 s.heap.size) ad Ks (lay tc ad gm dz I) s H locs := h
    have hl : lv_has ls 3 [(0, .ref (ad (4, b, e, 0))), (1, .int (nI d)), (2, .int month)] := hl
    have hL : LV gm Ks := hL
    have hG : GMok gm := hG
    have hg := hG b e
    have hmc : I (4, b, e, 0) 1 = nI mc := hmc
    have hlt : mc < (gm b e).1 := hlt
    refine lv_aload_n hx hb dX2_addMark_29 rfl (lv_at hl 0 rfl) ?_
    refine gf_Entry_markCount X h (hL (4, b, e, 0) ⟨by omega, by omega, rfl⟩) q130 (v := nI mc) hmc dX2_addMark_30 ?_
    refine lv_aload_n hx hb dX2_addMark_33 rfl (lv_at hl 0 rfl) ?_
    refine gf_Entry_marks X h (hL (4, b, e, 0) ⟨by omega, by omega, rfl⟩) q136 dX2_addMark_34 ?_
    refine x_doneI X h (x_runV X h (k := (7, b, e, 0)) (m_Jx4a65c_size_8abf5 I b e hL hG (by omega) (by omega) _) F_Jx4a65c_size_8abf5 q288 q289 q290 (hL (7, b, e, 0) ⟨by omega, by omega, rfl⟩) rfl rfl rfl (Nat.le_of_ble_eq_true rfl) (Nat.le_of_ble_eq_true rfl) ⟨hc, hs⟩ hl.1 (Nat.le_of_ble_eq_true rfl) dX2_addMark_37 rfl) (fun H locs h => ?_)
    refine n_icmp_ge (tgt := 81) hx hb (by omega) (by omega) dX2_addMark_40 (by decide) (fun c_40 => ?_) (fun c_40 => ?_)
    · skip
      exact absurd hlt (by omega)
    · skip
      refine lv_aload_n hx hb dX2_addMark_43 rfl (lv_at hl 0 rfl) ?_
      refine gf_Entry_marks X h (hL (4, b, e, 0) ⟨by omega, by omega, rfl⟩) q136 dX2_addMark_44 ?_
      refine lv_aload_n hx hb dX2_addMark_47 rfl (lv_at hl 0 rfl) ?_
      refine gf_Entry_markCount X h (hL (4, b, e, 0) ⟨by omega, by omega, rfl⟩) q130 (v := nI mc) hmc dX2_addMark_48 ?_
      refine x_doneA X h (x_runV X h (k := (7, b, e, 0)) (m_Jx4a65c_get_915e3 I b e hL hG (by omega) (by omega) mc (by omega) _) F_Jx4a65c_get_915e3 q292 q293 q294 (hL (7, b, e, 0) ⟨by omega, by omega, rfl⟩) rfl rfl rfl (Nat.le_of_ble_eq_true rfl) (Nat.le_of_ble_eq_true rfl) ⟨hc, hs⟩ hl.1 (Nat.le_of_ble_eq_true rfl) dX2_addMark_51 rfl) (fun H locs h => ?_)
      refine x_cast X h (hL (16, b, e, mc) ⟨by omega, by omega, by omega⟩) rfl rfl q306 dX2_addMark_54 ?_
      refine lv_aload_n hx hb dX2_addMark_57 rfl (lv_at hl 0 rfl) ?_
      refine gf_Entry_copies X h (hL (4, b, e, 0) ⟨by omega, by omega, rfl⟩) q133 dX2_addMark_58 ?_
      refine lv_iload_n hx hb dX2_addMark_61 rfl (lv_at hl 1 rfl) ?_
      refine ra_copies X h (hL (6, b, e, 0) ⟨by omega, by omega, rfl⟩) (j := d) (by omega) dX2_addMark_62 ?_
      refine gf_Copy_seen X h (hL (9, b, e, d) ⟨by omega, by omega, by omega⟩) q110 dX2_addMark_63 ?_
      refine lv_iload_n hx hb dX2_addMark_66 rfl (lv_at hl 1 rfl) ?_
      refine lv_iload_n hx hb dX2_addMark_67 rfl (lv_at hl 2 rfl) ?_
      refine x_doneV X h (x_runV X h (k := (16, b, e, mc)) (m_X4_set I b e mc hL (by omega) (by omega) (by omega) d (by omega) month _) F_X4_set q569 q570 q571 (hL (16, b, e, mc) ⟨by omega, by omega, by omega⟩) rfl rfl rfl (Nat.le_of_ble_eq_true rfl) (Nat.le_of_ble_eq_true rfl) ⟨hc, hs⟩ hl.1 (Nat.le_of_ble_eq_true rfl) dX2_addMark_68 rfl) (fun H locs h => ?_)
      refine lv_aload_n hx hb dX2_addMark_71 rfl (lv_at hl 0 rfl) ?_
      refine lv_dup hx hb dX2_addMark_72 rfl ?_
      refine gf_Entry_markCount X h (hL (4, b, e, 0) ⟨by omega, by omega, rfl⟩) q130 (v := nI mc) ((congrFun (markM_see (by exact Nat.ne_of_beq_eq_false rfl) (by exact Nat.ne_of_beq_eq_false rfl)) 1).trans hmc) dX2_addMark_73 ?_
      refine lv_iconst (v := nI 1) hx hb dX2_addMark_76 (by decide) ?_
      refine n_iadd hx hb dX2_addMark_77 ?_
      refine pf_Entry_markCount X h (hL (4, b, e, 0) ⟨by omega, by omega, rfl⟩) q130 dX2_addMark_78 (fun H locs h => ?_)
      have hm : (sset (markM I b e mc d month) (4, b, e, 0) (upd ((markM I b e mc d month) (4, b, e, 0)) 1 (nI (mc + 1)))) = addM I b e d mc month := by unfold addM; rw [markM_see (by exact Nat.ne_of_beq_eq_false rfl) (by exact Nat.ne_of_beq_eq_false rfl)]
      have h := h.eq (congrArg (lay tc ad gm dz) hm)
      exact g_vret X h hr hP hc hs dX2_addMark_81
