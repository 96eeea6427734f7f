section INH
variable {p : Program} {l : Launch} {e : Env} {R : Room} {s : State} {m : MethodId} {args : Array Value} {below : List Frame} {meth : Method} {c : Code} {H : Heap} {locs : List Loc} {cells slots : Nat} {Q : State → Prop}
variable {cc : ByteArray} {own : String} {nL : Nat} {D : va_G} {tc : TC} {dz : Nat} {A : Nat → Prop} {ad : KN → Nat} {Ks : List KN} {st : KN → va_E} {pc : Nat} {ls : Array Slot} {rest : List Value} {index : Nat}
/-- the list's count of changes is a field of its superclass -/
theorem r_getMod (X : Cx p s m args meth c cc own nL D tc dz A) (h : Sx D A ad Ks st s H locs) {k : KN} (hk : k ∈ Ks) {fs : List Value} (he : st k = .inr (0, fs)) (hq : Cond.fieldLink own index "java/util/ArrayList" "modCount" "I" ∈ AW) {v : Value} (hv : fs[0]? = some v) (hdg : decode cc pc = .ok (.getfield index, 3))
    (kk : W p l e R s m args below meth c H locs cells slots Q (F0 m (pc + 3) ls (v :: rest))) : W p l e R s m args below meth c H locs cells slots Q (F0 m pc ls (.ref (ad k) :: rest)) := by
  obtain ⟨⟨hx, hb, -, hown, hts⟩, -, hK, -⟩ := X
  obtain ⟨j, hj⟩ := List.getElem?_of_mem hk
  have hj2 := wl_at (ad := ad) (st := st) hj
  rw [he] at hj2
  exact va_get (C := RJx4a65c) (T := TJx4a65c) (N := 3) hx hb hts inJx4a65c hown hK h.1.P j hj2 rfl 0 (by decide) (hts _ hq) (fun x9 h9 => u_same (hts _ q70) x9 h9) hv hdg kk
theorem r_putMod (X : Cx p s m args meth c cc own nL D tc dz A) (h : Sx D A ad Ks st s H locs) {k : KN} (hk : k ∈ Ks) {fs : List Value} (he : st k = .inr (0, fs)) (hq : Cond.fieldLink own index "java/util/ArrayList" "modCount" "I" ∈ AW) {v : Int32} (hl : 0 < fs.length) (hdg : decode cc pc = .ok (.putfield index, 3))
    (kk : ∀ (H1 : Heap) (locs1 : List Loc), Sx D A ad Ks (sset st k (.inr (0, fs.set 0 (.int v)))) s H1 locs1 → W p l e R s m args below meth c H1 locs1 cells slots Q (F0 m (pc + 3) ls rest)) : W p l e R s m args below meth c H locs cells slots Q (F0 m pc ls (.int v :: .ref (ad k) :: rest)) := by
  obtain ⟨⟨hx, hb, -, hown, hts⟩, -, hK, -⟩ := X
  obtain ⟨j, hj⟩ := List.getElem?_of_mem hk
  have hj2 := wl_at (ad := ad) (st := st) hj
  rw [he] at hj2
  exact va_put (C := RJx4a65c) (T := TJx4a65c) (N := 3) hx hb hts inJx4a65c tyJx4a65c tyJx4a65c_ok nmJx4a65c hown hK h.1.P (h.2.1.Dw st) h.2.2 j hj2 rfl 0 (by decide) (hts _ hq) (fun x9 h9 => u_same (hts _ q70) x9 h9) rfl rfl rfl rfl hl hdg (fun H1 locs1 hP _ hS => kk H1 locs1 ⟨Hw.set h.2.1.1 hj hP, h.2.1, hS⟩)
end INH

set_option maxHeartbeats 4000000 in
set_option maxRecDepth 100000 in
theorem m_add {l : Launch} {D : va_G} {tc : TC} {dz : Nat} {ad : KN → Nat} {Ks : List KN} {st : KN → va_E} (b e g1 g2 : Nat) (v : Int32) (hk7 : (7, b, e, 0) ∈ Ks) (hs7 : st (7, b, e, 0) = .inr (0, [.int v, .ref (if g2 = 0 then dz else ad (8, b, e, 0)), .int (nI g1)])) (h12 : g1 ≤ g2) (hgw : g2 ≤ 2 * g1 + 10) (hgb : g1 < 2 ^ 18) (h8 : 0 < g2 → (8, b, e, 0) ∈ Ks ∧ st (8, b, e, 0) = .inl (tc 6, g2, .inr (.inr (.inr (.inr (FJ ad b e g1)))))) (h80 : g2 = 0 → (8, b, e, 0) ∉ Ks) (h52 : (52, b, e, 0) ∉ Ks) (hmk : ∀ j, j < g1 → (16, b, e, j) ∈ Ks ∧ ∃ fs, st (16, b, e, j) = .inr (5, fs)) (hM : (16, b, e, g1) ∈ Ks) (fsM : List Value) (hsM : st (16, b, e, g1) = .inr (5, fsM)) : GI l yJx4a65c_add_9ea2d cJx4a65c_add_9ea2d 2 (some .boolean) 7 1 (2 * g1 + 10) D tc dz ad Ks st [.ref (ad (7, b, e, 0)), .ref (ad (16, b, e, g1))] (fun r u => r = nI 1 ∧ (∃ c2, g1 + 1 ≤ c2 ∧ c2 ≤ 2 * g1 + 10 ∧ (∀ k, k ≠ (8, b, e, 0) → u.1 k = ad k) ∧ (∀ k, k ∈ u.2.1 ↔ (k = (8, b, e, 0) ∨ k ∈ Ks)) ∧ (∀ k, k ≠ (7, b, e, 0) → k ≠ (8, b, e, 0) → u.2.2 k = st k) ∧ u.2.2 (7, b, e, 0) = .inr (0, [.int (v + nI 1), .ref (u.1 (8, b, e, 0)), .int (nI (g1 + 1))]) ∧ u.2.2 (8, b, e, 0) = .inl (tc 6, c2, .inr (.inr (.inr (.inr (FJ u.1 b e (g1 + 1)))))))) := by
  intro sz
  refine x_ofW (by decide +kernel) (Nat.le_of_ble_eq_true rfl) (fun pp ee s mm bel meth cd ls X hr hin hz h hl => ?_)
  subst hz
  obtain ⟨hx, hb, hmaxL, hown, hts⟩ := id X.1
  have hl : lv_has ls 2 [(0, .ref (ad (7, b, e, 0))), (1, .ref (ad (16, b, e, g1)))] := hl
  have hm3 : 0 < g2 → max 1 (g2 / 2) ≤ g2 := fun q => by rw [Nat.max_le]; omega
  have hm1 := Nat.le_max_left 1 (g2 / 2)
  refine lv_aload_n hx hb dJx4a65c_add_9ea2d_0 rfl (lv_at hl 0 rfl) ?_
  refine lv_dup hx hb dJx4a65c_add_9ea2d_1 rfl ?_
  refine r_getMod X h hk7 hs7 q69 rfl dJx4a65c_add_9ea2d_2 ?_
  refine lv_iconst (v := nI 1) hx hb dJx4a65c_add_9ea2d_5 (by decide) ?_
  refine lv_iadd hx hb dJx4a65c_add_9ea2d_6 ?_
  refine r_putMod X h hk7 hs7 q69 (Nat.le_of_ble_eq_true rfl) dJx4a65c_add_9ea2d_7 (fun H locs h => ?_)
  have h : Sx D (wA ad Ks s.heap.size) ad Ks (sset st (7, b, e, 0) (.inr (0, [.int (v + nI 1), .ref (if g2 = 0 then dz else ad (8, b, e, 0)), .int (nI g1)]))) s H locs := h
  have hs71 := sset_eq st (7, b, e, 0) (Sum.inr (0, [Value.int (v + nI 1), Value.ref (if g2 = 0 then dz else ad (8, b, e, 0)), Value.int (nI g1)]))
  have hM7 : (16, b, e, g1) ≠ (7, b, e, 0) := nek (by decide)
  have hne : (8, b, e, 0) ≠ (7, b, e, 0) := nek (by decide)
  have hsM1 := (sset_ne st (Sum.inr (0, [Value.int (v + nI 1), Value.ref (if g2 = 0 then dz else ad (8, b, e, 0)), Value.int (nI g1)])) hM7).trans hsM
  refine lv_aload_n hx hb dJx4a65c_add_9ea2d_10 rfl (lv_at hl 0 rfl) ?_
  refine lv_aload_n hx hb dJx4a65c_add_9ea2d_11 rfl (lv_at hl 1 rfl) ?_
  refine lv_aload_n hx hb dJx4a65c_add_9ea2d_12 rfl (lv_at hl 0 rfl) ?_
  refine r_get X h rfl hk7 hs71 rfl inJx4a65c 1 (by decide) q66 rfl rfl dJx4a65c_add_9ea2d_13 ?_
  refine lv_aload_n hx hb dJx4a65c_add_9ea2d_16 rfl (lv_at hl 0 rfl) ?_
  refine r_get X h rfl hk7 hs71 rfl inJx4a65c 2 (by decide) q67 rfl rfl dJx4a65c_add_9ea2d_17 ?_
  by_cases hz : g2 = 0
  · have hg0 : g1 = 0 := by omega
    rw [if_pos hz] at hs71 ⊢
    have h := h
    rw [if_pos hz] at h hsM1
    refine g_doneV X h (x_runV X h (k := (7, b, e, 0)) (m_add2_first b e g1 (v + nI 1) hk7 hg0 (h80 hz) hs71 hM fsM hsM1 (by omega) _) F_Jx4a65c_add_72be8 q515 q517 q2 hk7 hs71 rfl rfl (Nat.le_of_ble_eq_true rfl) (Nat.le_of_ble_eq_true rfl) ⟨by show 0 + 1 ≤ 1; decide, by show 0 + 10 ≤ 2 * g1 + 10; omega⟩ hl.1 (Nat.le_of_ble_eq_true rfl) dJx4a65c_add_9ea2d_20 rfl) (fun u H locs hP h => ?_)
    obtain ⟨ad1, Ks1, st2⟩ := u
    obtain ⟨hn, hKi, hso, hf7, hf8⟩ := hP
    have h : Sx D (wA ad Ks s.heap.size) ad1 Ks1 st2 s H locs := h
    have hn : ∀ k, k ≠ (8, b, e, 0) → ad1 k = ad k := hn
    refine lv_iconst (v := nI 1) hx hb dJx4a65c_add_9ea2d_23 (by decide) ?_
    refine g_iret X h hr (by decide) ⟨rfl, 10, by omega, by omega, hn, hKi, fun k q1 q2 => (hso k q1 q2).trans (sset_ne _ _ q1), hf7, hf8.trans (congrArg (fun f => (Sum.inl (tc 6, 10, .inr (.inr (.inr (.inr f)))) : va_E)) (funext fun j => ?_))⟩ (by show 0 + 1 ≤ 1; decide) (by show 0 + 10 ≤ 2 * g1 + 10; omega) dJx4a65c_add_9ea2d_24
    have hj : ad1 (16, b, e, j) = ad (16, b, e, j) := hn _ (nek (by decide))
    show va_up (fun _ => none) g1 (some (ad (16, b, e, g1))) j = FJ ad1 b e (g1 + 1) j
    unfold FJ
    rw [hj]
    by_cases q : j = g1
    · rw [if_pos (by omega), q]
      exact if_pos rfl
    · rw [if_neg (by omega)]
      exact if_neg q
  · obtain ⟨hk8, hs8⟩ := h8 (by omega)
    rw [if_neg hz] at hs71 ⊢
    have h := h
    rw [if_neg hz] at h hsM1
    have hs81 := (sset_ne st (Sum.inr (0, [Value.int (v + nI 1), Value.ref (ad (8, b, e, 0)), Value.int (nI g1)])) hne).trans hs8
    have hel : ∀ i, i < g1 → ∀ y, FJ ad b e g1 i = some y → ∃ (k2 : KN) (fs : List Value), k2 ∈ Ks ∧ y = ad k2 ∧ (sset st (7, b, e, 0) (Sum.inr (0, [Value.int (v + nI 1), Value.ref (ad (8, b, e, 0)), Value.int (nI g1)]))) k2 = .inr (5, fs) := fun i hi y hy => by
      obtain ⟨m1, fs, m2⟩ := hmk i hi
      unfold FJ at hy
      rw [if_pos hi] at hy
      cases hy
      exact ⟨_, fs, m1, rfl, (sset_ne _ _ (nek (by decide))).trans m2⟩
    by_cases hf : g1 < g2
    · refine g_doneV X h (x_runV X h (k := (7, b, e, 0)) (m_add2_room b e g1 g2 (v + nI 1) _ hk7 hf (by omega) hk8 hs71 hs81 hM fsM hsM1 _) F_Jx4a65c_add_72be8 q515 q517 q2 hk7 hs71 rfl rfl (Nat.le_of_ble_eq_true rfl) (Nat.le_of_ble_eq_true rfl) ⟨by show 0 + 0 ≤ 1; decide, by show 0 + 0 ≤ 2 * g1 + 10; omega⟩ hl.1 (Nat.le_of_ble_eq_true rfl) dJx4a65c_add_9ea2d_20 rfl) (fun u H locs hP h => ?_)
      obtain ⟨ad1, Ks1, st2⟩ := u
      obtain ⟨hn, hKi, hso, hf7, hf8⟩ := hP
      have h : Sx D (wA ad Ks s.heap.size) ad1 Ks1 st2 s H locs := h
      have hn : ∀ k, k ≠ (8, b, e, 0) → ad1 k = ad k := hn
      refine lv_iconst (v := nI 1) hx hb dJx4a65c_add_9ea2d_23 (by decide) ?_
      refine g_iret X h hr (by decide) ⟨rfl, g2, by omega, by omega, hn, hKi, fun k q1 q2 => (hso k q1 q2).trans (sset_ne _ _ q1), hf7, hf8.trans (congrArg (fun f => (Sum.inl (tc 6, g2, .inr (.inr (.inr (.inr f)))) : va_E)) (funext fun j => ?_))⟩ (by show 0 + 0 ≤ 1; decide) (by show 0 + 0 ≤ 2 * g1 + 10; omega) dJx4a65c_add_9ea2d_24
      have hj : ad1 (16, b, e, j) = ad (16, b, e, j) := hn _ (nek (by decide))
      show va_up (FJ ad b e g1) g1 (some (ad (16, b, e, g1))) j = FJ ad1 b e (g1 + 1) j
      by_cases q : j = g1
      · subst q
        refine (if_pos rfl).trans ?_
        unfold FJ
        rw [if_pos (by omega), hj]
      · refine (if_neg q).trans ?_
        unfold FJ
        rw [hj]
        by_cases q2 : j < g1
        · rw [if_pos q2, if_pos (by omega)]
        · rw [if_neg q2, if_neg (by omega)]
    · have hg12 : g1 = g2 := by omega
      refine g_doneV X h (x_runV X h (k := (7, b, e, 0)) (m_add2_more b e g1 g2 (v + nI 1) _ hk7 hg12 (by omega) (by omega) hk8 h52 hs71 hs81 (fun i hi y hy => hel i (by omega) y hy) hM fsM hsM1 (by omega) _) F_Jx4a65c_add_72be8 q515 q517 q2 hk7 hs71 rfl rfl (Nat.le_of_ble_eq_true rfl) (Nat.le_of_ble_eq_true rfl) ⟨by show 0 + 1 ≤ 1; decide, by show 0 + (g2 + max 1 (g2 / 2)) ≤ 2 * g1 + 10; omega⟩ hl.1 (Nat.le_of_ble_eq_true rfl) dJx4a65c_add_9ea2d_20 rfl) (fun u H locs hP h => ?_)
      obtain ⟨ad1, Ks1, st2⟩ := u
      obtain ⟨hn, hKi, hso, hf7, hf8⟩ := hP
      have h : Sx D (wA ad Ks s.heap.size) ad1 Ks1 st2 s H locs := h
      have hn : ∀ k, k ≠ (8, b, e, 0) → ad1 k = ad k := hn
      refine lv_iconst (v := nI 1) hx hb dJx4a65c_add_9ea2d_23 (by decide) ?_
      refine g_iret X h hr (by decide) ⟨rfl, (g2 + max 1 (g2 / 2)), by omega, by omega, hn, hKi, fun k q1 q2 => (hso k q1 q2).trans (sset_ne _ _ q1), hf7, hf8.trans (congrArg (fun f => (Sum.inl (tc 6, (g2 + max 1 (g2 / 2)), .inr (.inr (.inr (.inr f)))) : va_E)) (funext fun j => ?_))⟩ (by show 0 + 1 ≤ 1; decide) (by show 0 + (g2 + max 1 (g2 / 2)) ≤ 2 * g1 + 10; omega) dJx4a65c_add_9ea2d_24
      have hj : ad1 (16, b, e, j) = ad (16, b, e, j) := hn _ (nek (by decide))
      show va_up (va_cpy (FJ ad b e g1) (fun _ => none) 0 0 g2) g1 (some (ad (16, b, e, g1))) j = FJ ad1 b e (g1 + 1) j
      by_cases q : j = g1
      · subst q
        refine (if_pos rfl).trans ?_
        unfold FJ
        rw [if_pos (by omega), hj]
      · refine (if_neg q).trans ?_
        unfold FJ va_cpy
        rw [hj, Nat.zero_add, Nat.zero_add, Nat.sub_zero]
        by_cases q2 : j < g1
        · rw [if_pos ⟨Nat.zero_le _, by omega⟩]
          show (if j < g1 then some (ad (16, b, e, j)) else none) = _
          rw [if_pos q2, if_pos (by omega)]
        · rw [if_neg (fun z => q2 (by omega)), if_neg (by omega)]
