set_option maxHeartbeats 4000000 in
set_option maxRecDepth 100000 in
theorem m_X3_repeatOn {l : Launch} {D : va_G} {tc : TC} {dz : Nat} {ad0 : KN → Nat} {Ks0 : List KN} {gm0 : GM} (I0 : Mem) (V : Nat → BS) (acts : Nat → Act) (z : Nat) (hz : z ≤ 512) (hR : Runs V acts z) (hRS0 : RS V I0 gm0 ad0 Ks0 0 ad0 Ks0 gm0 I0) (hz5 : I0 (20, 0, 0, 0) 0 = nI z) (hrow : ∀ j, j < z → I0 (21, 0, 0, 0) j = nI (acts j).1 ∧ I0 (22, 0, 0, 0) j = (acts j).2.1 ∧ I0 (23, 0, 0, 0) j = (acts j).2.2.1 ∧ I0 (24, 0, 0, 0) j = (acts j).2.2.2.1 ∧ I0 (25, 0, 0, 0) j = (acts j).2.2.2.2) :
    GV l yX3_repeatOn cX3_repeatOn 6 10 (5 * need (fun e => (gm0 1 e).1) (V z).2.2 10) (2111 * need (fun e => (gm0 1 e).1) (V z).2.2 10) D tc dz ad0 Ks0 (lay tc ad0 gm0 dz I0) [.ref (ad0 (20, 0, 0, 0)), .ref (ad0 (1, 1, 0, 0))] (fun u => ∃ gm I, RS V I0 gm0 ad0 Ks0 z u.1 u.2.1 gm I ∧ ∀ k, k ∈ u.2.1 → u.2.2 k = lay tc u.1 gm dz I k) := by
  have hW0 := hRS0.2.2.2.2.2.1
  intro sz
  refine x_ofW (by decide +kernel) (Nat.le_of_ble_eq_true rfl) (fun pp ee s mm bel meth cd ls X hr hin hzz h hl => ?_)
  subst hzz
  obtain ⟨hx, hb, hmaxL, hown, hts⟩ := id X.1
  have hl : lv_has ls 6 [(0, .ref (ad0 (20, 0, 0, 0))), (1, .ref (ad0 (1, 1, 0, 0)))] := hl
  have hmn : ∀ i j, i ≤ j → j ≤ z → need (fun e => (gm0 1 e).1) (V i).2.2 10 ≤ need (fun e => (gm0 1 e).1) (V j).2.2 10 := fun i j hij hj => need_mono (fun e => by
    have := hR.mono e i (j - i) (by omega)
    rwa [Nat.add_sub_cancel' hij] at this) 10
  have hn00 : need (fun e => (gm0 1 e).1) (V 0).2.2 10 = 0 := by
    have : ∀ n, need (fun e => (gm0 1 e).1) (fun _ => 0) n = 0 := fun n => by
      induction n with
      | zero => rfl
      | succ n ih => rw [need, ih, Nat.zero_sub]
    rw [hR.1]
    exact this 10
  refine lv_iconst (v := nI 0) hx hb dX3_repeatOn_0 (by decide) ?_
  refine lv_istore_n (lv' := [(2, .int (nI 0)), (0, .ref (ad0 (20, 0, 0, 0))), (1, .ref (ad0 (1, 1, 0, 0)))]) hx hb dX3_repeatOn_1 rfl hl (by decide) rfl (fun ls hl => ?_)
  refine W.widen (k := 5 * need (fun e => (gm0 1 e).1) (V 0).2.2 10) (n := 2111 * need (fun e => (gm0 1 e).1) (V 0).2.2 10) (by omega) (by omega) ?_
  refine g_loop (D := D) (A := wA ad0 Ks0 s.heap.size) (nL := 6) (σ := (KN → Nat) × List KN × GM × Mem × Nat) (fun x => (x.1, x.2.1, lay tc x.1 x.2.2.1 dz x.2.2.2.1)) (fun x => [(2, .int (nI x.2.2.2.2)), (0, .ref (ad0 (20, 0, 0, 0))), (1, .ref (ad0 (1, 1, 0, 0)))]) (fun x => 5 * need (fun e => (gm0 1 e).1) (V x.2.2.2.2).2.2 10) (fun x => 2111 * need (fun e => (gm0 1 e).1) (V x.2.2.2.2).2.2 10) (fun x => x.2.2.2.2 ≤ z ∧ RS V I0 gm0 ad0 Ks0 x.2.2.2.2 x.1 x.2.1 x.2.2.1 x.2.2.2.1) (fun x => z - x.2.2.2.2) (fun x hok ih H locs ls h hl => ?_) (ad0, Ks0, gm0, I0, 0) ⟨Nat.zero_le _, hRS0⟩ h hl
  obtain ⟨ad, Ks, gm, I, j⟩ := x
  obtain ⟨hj, hRS⟩ := hok
  have h : Sx D (wA ad0 Ks0 s.heap.size) ad Ks (lay tc ad gm dz I) s H locs := h
  have hj : j ≤ z := hj
  have hRS : RS V I0 gm0 ad0 Ks0 j ad Ks gm I := hRS
  have ih : ∀ (adx : KN → Nat) (Ksx : List KN) (gmx : GM) (Ix : Mem), j < z → RS V I0 gm0 ad0 Ks0 (j + 1) adx Ksx gmx Ix → ∀ (H : Heap) (locs : List Loc) (ls : Array Slot), Sx D (wA ad0 Ks0 s.heap.size) adx Ksx (lay tc adx gmx dz Ix) s H locs → lv_has ls 6 [(2, .int (nI (j + 1))), (0, .ref (ad0 (20, 0, 0, 0))), (1, .ref (ad0 (1, 1, 0, 0)))] → W pp l ee (rmL 10 (5 * need (fun e => (gm0 1 e).1) (V z).2.2 10) (2111 * need (fun e => (gm0 1 e).1) (V z).2.2 10)) s mm [.ref (ad0 (20, 0, 0, 0)), .ref (ad0 (1, 1, 0, 0))].toArray bel meth cd H locs (5 * need (fun e => (gm0 1 e).1) (V (j + 1)).2.2 10) (2111 * need (fun e => (gm0 1 e).1) (V (j + 1)).2.2 10) (MQ bel (va_Qv (fun u => ∃ gm I, RS V I0 gm0 ad0 Ks0 z u.1 u.2.1 gm I ∧ ∀ k, k ∈ u.2.1 → u.2.2 k = lay tc u.1 gm dz I k) (wsB D ad0 Ks0 s.heap.size) (wA ad0 Ks0 s.heap.size)) [.ref (ad0 (20, 0, 0, 0)), .ref (ad0 (1, 1, 0, 0))].toArray s (5 * need (fun e => (gm0 1 e).1) (V z).2.2 10) (2111 * need (fun e => (gm0 1 e).1) (V z).2.2 10) (wA ad0 Ks0 s.heap.size)) (F0 mm 2 ls []) := fun adx Ksx gmx Ix hjz hx2 => ih (adx, Ksx, gmx, Ix, j + 1) ⟨hjz, hx2⟩ (by show z - (j + 1) < z - j; omega)
  show W pp l ee (rmL 10 (5 * need (fun e => (gm0 1 e).1) (V z).2.2 10) (2111 * need (fun e => (gm0 1 e).1) (V z).2.2 10)) s mm [.ref (ad0 (20, 0, 0, 0)), .ref (ad0 (1, 1, 0, 0))].toArray bel meth cd H locs (5 * need (fun e => (gm0 1 e).1) (V j).2.2 10) (2111 * need (fun e => (gm0 1 e).1) (V j).2.2 10) (MQ bel (va_Qv (fun u => ∃ gm I, RS V I0 gm0 ad0 Ks0 z u.1 u.2.1 gm I ∧ ∀ k, k ∈ u.2.1 → u.2.2 k = lay tc u.1 gm dz I k) (wsB D ad0 Ks0 s.heap.size) (wA ad0 Ks0 s.heap.size)) [.ref (ad0 (20, 0, 0, 0)), .ref (ad0 (1, 1, 0, 0))].toArray s (5 * need (fun e => (gm0 1 e).1) (V z).2.2 10) (2111 * need (fun e => (gm0 1 e).1) (V z).2.2 10) (wA ad0 Ks0 s.heap.size)) (F0 mm 2 ls [])
  have hl : lv_has ls 6 [(2, .int (nI j)), (0, .ref (ad0 (20, 0, 0, 0))), (1, .ref (ad0 (1, 1, 0, 0)))] := hl
  have hBN := hR.bn j hj
  have hB := hRS.bk hBN
  have hR2 := hRS.2.1
  have hG := hR2.ok
  have hL := hRS.2.2.2.2.1
  have hW := hRS.2.2.2.2.2.1
  have hS := hRS.1
  have hK0 : (20, 0, 0, 0) ∈ Ks0 := hRS0.2.2.2.2.1 _ ⟨by decide, rfl, rfl, rfl⟩
  have hK1 : (1, 1, 0, 0) ∈ Ks0 := hRS0.2.2.2.2.1 _ ⟨by decide, rfl, rfl⟩
  have eA := hRS.2.2.2.2.2.2 _ hK0 (kz rfl)
  have eB := hRS.2.2.2.2.2.2 _ hK1 (kz rfl)
  rw [← eA, ← eB] at hl
  have hz5 : I (20, 0, 0, 0) 0 = nI z := (congrFun (hS.2 _ (Or.inr (Or.inl (by decide)))) 0).trans hz5
  have hmcz : ∀ e, (V j).2.2 e < 600 := fun e => by have := hR.mcj e j hj; omega
  refine lv_iload_n hx hb dX3_repeatOn_2 rfl (lv_at hl 0 rfl) ?_
  refine lv_sipush (v := nI 512) hx hb dX3_repeatOn_3 (by decide) ?_
  refine n_icmp_ge (tgt := 162) hx hb (by omega) (by omega) dX3_repeatOn_6 (by decide) (fun c_6 => ?_) (fun c_6 => ?_)
  · skip
    have hjz : j = z := by omega
    subst hjz
    exact g_vret X h hr ⟨gm, I, hRS, fun _ _ => rfl⟩ (Nat.le_refl _) (Nat.le_refl _) dX3_repeatOn_162
  · skip
    refine lv_iload_n hx hb dX3_repeatOn_9 rfl (lv_at hl 0 rfl) ?_
    refine lv_aload_n hx hb dX3_repeatOn_10 rfl (lv_at hl 1 rfl) ?_
    refine gf_Journal_size X h (hL (20, 0, 0, 0) ⟨by decide, rfl, rfl, rfl⟩) q169 (v := nI z) hz5 dX3_repeatOn_11 ?_
    refine n_icmp_ge (tgt := 162) hx hb (by omega) (by omega) dX3_repeatOn_14 (by decide) (fun c_14 => ?_) (fun c_14 => ?_)
    · skip
      have hjz : j = z := by omega
      subst hjz
      exact g_vret X h hr ⟨gm, I, hRS, fun _ _ => rfl⟩ (Nat.le_refl _) (Nat.le_refl _) dX3_repeatOn_162
    · skip
      have hjz : j < z := by omega
      obtain ⟨hw21, hw22, hw23, hw24, hw25⟩ := hrow j hjz
      have hst := hR.2 j hjz
      have hcj : 5 * need (fun e => (gm0 1 e).1) (V j).2.2 10 + 0 ≤ (rmL 10 (5 * need (fun e => (gm0 1 e).1) (V z).2.2 10) (2111 * need (fun e => (gm0 1 e).1) (V z).2.2 10)).cells := by show 5 * need (fun e => (gm0 1 e).1) (V j).2.2 10 + 0 ≤ 5 * need (fun e => (gm0 1 e).1) (V z).2.2 10; have := hmn j z hj (Nat.le_refl _); omega
      have hsj : 2111 * need (fun e => (gm0 1 e).1) (V j).2.2 10 + 0 ≤ (rmL 10 (5 * need (fun e => (gm0 1 e).1) (V z).2.2 10) (2111 * need (fun e => (gm0 1 e).1) (V z).2.2 10)).slots := by show 2111 * need (fun e => (gm0 1 e).1) (V j).2.2 10 + 0 ≤ 2111 * need (fun e => (gm0 1 e).1) (V z).2.2 10; have := hmn j z hj (Nat.le_refl _); omega
      refine lv_aload_n hx hb dX3_repeatOn_17 rfl (lv_at hl 1 rfl) ?_
      refine gf_Journal_firsts X h (hL (20, 0, 0, 0) ⟨by decide, rfl, rfl, rfl⟩) q171 dX3_repeatOn_18 ?_
      refine lv_iload_n hx hb dX3_repeatOn_21 rfl (lv_at hl 0 rfl) ?_
      refine y_ald X h (fun _ => rfl) (by decide) (hL (22, 0, 0, 0) ⟨by decide, rfl, rfl, rfl⟩) (by omega) (v := (acts j).2.1) ((congrFun (hS.2 (22, 0, 0, 0) (Or.inr (Or.inl (Nat.le_of_ble_eq_true rfl)))) j).trans hw22) dX3_repeatOn_22 ?_
      refine lv_istore_n (lv' := [(3, .int ((acts j).2.1)), (2, .int (nI j)), (0, .ref (ad (20, 0, 0, 0))), (1, .ref (ad (1, 1, 0, 0)))]) hx hb dX3_repeatOn_23 rfl hl (by decide) rfl (fun ls hl => ?_)
      refine lv_aload_n hx hb dX3_repeatOn_24 rfl (lv_at hl 2 rfl) ?_
      refine gf_Journal_seconds X h (hL (20, 0, 0, 0) ⟨by decide, rfl, rfl, rfl⟩) q172 dX3_repeatOn_25 ?_
      refine lv_iload_n hx hb dX3_repeatOn_28 rfl (lv_at hl 1 rfl) ?_
      refine y_ald X h (fun _ => rfl) (by decide) (hL (23, 0, 0, 0) ⟨by decide, rfl, rfl, rfl⟩) (by omega) (v := (acts j).2.2.1) ((congrFun (hS.2 (23, 0, 0, 0) (Or.inr (Or.inl (Nat.le_of_ble_eq_true rfl)))) j).trans hw23) dX3_repeatOn_29 ?_
      refine lv_istore (lv' := [(4, .int ((acts j).2.2.1)), (3, .int ((acts j).2.1)), (2, .int (nI j)), (0, .ref (ad (20, 0, 0, 0))), (1, .ref (ad (1, 1, 0, 0)))]) hx hb dX3_repeatOn_30 hl (by decide) rfl (fun ls hl => ?_)
      refine lv_aload_n hx hb dX3_repeatOn_32 rfl (lv_at hl 3 rfl) ?_
      refine gf_Journal_thirds X h (hL (20, 0, 0, 0) ⟨by decide, rfl, rfl, rfl⟩) q173 dX3_repeatOn_33 ?_
      refine lv_iload_n hx hb dX3_repeatOn_36 rfl (lv_at hl 2 rfl) ?_
      refine y_ald X h (fun _ => rfl) (by decide) (hL (24, 0, 0, 0) ⟨by decide, rfl, rfl, rfl⟩) (by omega) (v := (acts j).2.2.2.1) ((congrFun (hS.2 (24, 0, 0, 0) (Or.inr (Or.inl (Nat.le_of_ble_eq_true rfl)))) j).trans hw24) dX3_repeatOn_37 ?_
      refine lv_istore (lv' := [(5, .int ((acts j).2.2.2.1)), (4, .int ((acts j).2.2.1)), (3, .int ((acts j).2.1)), (2, .int (nI j)), (0, .ref (ad (20, 0, 0, 0))), (1, .ref (ad (1, 1, 0, 0)))]) hx hb dX3_repeatOn_38 hl (by decide) rfl (fun ls hl => ?_)
      refine lv_aload_n hx hb dX3_repeatOn_40 rfl (lv_at hl 4 rfl) ?_
      refine gf_Journal_kinds X h (hL (20, 0, 0, 0) ⟨by decide, rfl, rfl, rfl⟩) q170 dX3_repeatOn_41 ?_
      refine lv_iload_n hx hb dX3_repeatOn_44 rfl (lv_at hl 3 rfl) ?_
      refine y_ald X h (fun _ => rfl) (by decide) (hL (21, 0, 0, 0) ⟨by decide, rfl, rfl, rfl⟩) (by omega) (v := nI (acts j).1) ((congrFun (hS.2 (21, 0, 0, 0) (Or.inr (Or.inl (Nat.le_of_ble_eq_true rfl)))) j).trans hw21) dX3_repeatOn_45 ?_
      rcases hst with ⟨d, hd, hn9, ha, hv⟩ | ⟨d, e, f, v, hd, he, hf, ha, hv⟩ | ⟨d, e, hd, he, ha, hv⟩ | ⟨e, q, F, he, hq, ha, hv⟩ | ⟨d, d2, hd, hd2, hne, ha, hv⟩ | ⟨k, ha, hv⟩
      · rw [ha]
        rw [ha] at hl
        have hl : lv_has ls 6 [(5, .int (nI 0)), (4, .int (nI 0)), (3, .int (nI d)), (2, .int (nI j)), (0, .ref (ad (20, 0, 0, 0))), (1, .ref (ad (1, 1, 0, 0)))] := hl
        refine lv_tableIn (x := nI 0) (tgt := 84) (off := 38) hx hb dX3_repeatOn_46 (by decide) (by decide) (by decide) (by decide) ?_
        refine lv_aload_n hx hb dX3_repeatOn_84 rfl (lv_at hl 5 rfl) ?_
        refine lv_iload_n hx hb dX3_repeatOn_85 rfl (lv_at hl 2 rfl) ?_
        refine x_doneI X h (x_runV X h (k := (1, 1, 0, 0)) (m_X0_makeEntry I 1 hL hG (Nat.le_of_ble_eq_true rfl) (V j).2.1 (V j).2.2 hB d hd hn9 _) F_X0_makeEntry q710 q417 q418 (hL (1, 1, 0, 0) ⟨by omega, rfl, rfl⟩) rfl rfl rfl (Nat.le_of_ble_eq_true rfl) (Nat.le_of_ble_eq_true rfl) ⟨hcj, hsj⟩ hl.1 (Nat.le_of_ble_eq_true rfl) dX3_repeatOn_86 rfl) (fun H locs h => ?_)
        refine lv_pop hx hb dX3_repeatOn_89 rfl ?_
        refine lv_goto (tgt := 156) hx hb dX3_repeatOn_90 (by decide) ?_
        refine n_iinc (j := j) (n := 1) (lv' := [(2, .int (nI (j + 1))), (5, .int (nI 0)), (4, .int (nI 0)), (3, .int (nI d)), (0, .ref (ad (20, 0, 0, 0))), (1, .ref (ad (1, 1, 0, 0)))]) hx hb dX3_repeatOn_156 hl (k := 3) rfl (by decide) (by decide) rfl (fun ls hl => ?_)
        refine lv_goto (tgt := 2) hx hb dX3_repeatOn_159 (by decide) ?_
        have hRS2 : RS V I0 gm0 ad0 Ks0 (j + 1) ad Ks gm (mkeM I 1 d (V j).2.1) := hRS.plain hv (hS.mke d (V j).2.1)
        have hvm : (V (j + 1)).2.2 = (V j).2.2 := by rw [hv]
        refine W.widen (k := 5 * need (fun e => (gm0 1 e).1) (V (j + 1)).2.2 10) (n := 2111 * need (fun e => (gm0 1 e).1) (V (j + 1)).2.2 10) (by rw [hvm]; exact Nat.le_refl _) (by rw [hvm]; exact Nat.le_refl _) ?_
        rw [eA, eB] at hl
        exact ih ad Ks gm (mkeM I 1 d (V j).2.1) hjz hRS2 H locs ls h (lv_sub hl [0, 4, 5] rfl)
      · rw [ha] at hw25 ⊢
        rw [ha] at hl
        have hl : lv_has ls 6 [(5, .int (nI f)), (4, .int (nI e)), (3, .int (nI d)), (2, .int (nI j)), (0, .ref (ad (20, 0, 0, 0))), (1, .ref (ad (1, 1, 0, 0)))] := hl
        refine lv_tableIn (x := nI 1) (tgt := 93) (off := 47) hx hb dX3_repeatOn_46 (by decide) (by decide) (by decide) (by decide) ?_
        refine lv_aload_n hx hb dX3_repeatOn_93 rfl (lv_at hl 5 rfl) ?_
        refine lv_iload_n hx hb dX3_repeatOn_94 rfl (lv_at hl 2 rfl) ?_
        refine lv_iload hx hb dX3_repeatOn_95 (lv_at hl 1 rfl) ?_
        refine lv_iload hx hb dX3_repeatOn_97 (lv_at hl 0 rfl) ?_
        refine lv_aload_n hx hb dX3_repeatOn_99 rfl (lv_at hl 4 rfl) ?_
        refine gf_Journal_fourths X h (hL (20, 0, 0, 0) ⟨by decide, rfl, rfl, rfl⟩) q174 dX3_repeatOn_100 ?_
        refine lv_iload_n hx hb dX3_repeatOn_103 rfl (lv_at hl 3 rfl) ?_
        refine y_ald X h (fun _ => rfl) (by decide) (hL (25, 0, 0, 0) ⟨by decide, rfl, rfl, rfl⟩) (by omega) (v := v) ((congrFun (hS.2 (25, 0, 0, 0) (Or.inr (Or.inl (Nat.le_of_ble_eq_true rfl)))) j).trans hw25) dX3_repeatOn_104 ?_
        refine x_doneI X h (x_runV X h (k := (1, 1, 0, 0)) (m_X0_tellValue I 1 hL hG (Nat.le_of_ble_eq_true rfl) (V j).2.1 (V j).2.2 hB d e f v hd he hf _) F_X0_tellValue q711 q461 q462 (hL (1, 1, 0, 0) ⟨by omega, rfl, rfl⟩) rfl rfl rfl (Nat.le_of_ble_eq_true rfl) (Nat.le_of_ble_eq_true rfl) ⟨hcj, hsj⟩ hl.1 (Nat.le_of_ble_eq_true rfl) dX3_repeatOn_105 rfl) (fun H locs h => ?_)
        refine lv_pop hx hb dX3_repeatOn_108 rfl ?_
        refine lv_goto (tgt := 156) hx hb dX3_repeatOn_109 (by decide) ?_
        refine n_iinc (j := j) (n := 1) (lv' := [(2, .int (nI (j + 1))), (5, .int (nI f)), (4, .int (nI e)), (3, .int (nI d)), (0, .ref (ad (20, 0, 0, 0))), (1, .ref (ad (1, 1, 0, 0)))]) hx hb dX3_repeatOn_156 hl (k := 3) rfl (by decide) (by decide) rfl (fun ls hl => ?_)
        refine lv_goto (tgt := 2) hx hb dX3_repeatOn_159 (by decide) ?_
        have hRS2 : RS V I0 gm0 ad0 Ks0 (j + 1) ad Ks gm (tllM I 1 e f d v) := hRS.plain hv (hS.tll e f d v)
        have hvm : (V (j + 1)).2.2 = (V j).2.2 := by rw [hv]
        refine W.widen (k := 5 * need (fun e => (gm0 1 e).1) (V (j + 1)).2.2 10) (n := 2111 * need (fun e => (gm0 1 e).1) (V (j + 1)).2.2 10) (by rw [hvm]; exact Nat.le_refl _) (by rw [hvm]; exact Nat.le_refl _) ?_
        rw [eA, eB] at hl
        exact ih ad Ks gm (tllM I 1 e f d v) hjz hRS2 H locs ls h (lv_sub hl [0, 4, 5] rfl)
      · rw [ha]
        rw [ha] at hl
        have hl : lv_has ls 6 [(5, .int (nI 0)), (4, .int (nI e)), (3, .int (nI d)), (2, .int (nI j)), (0, .ref (ad (20, 0, 0, 0))), (1, .ref (ad (1, 1, 0, 0)))] := hl
        refine lv_tableIn (x := nI 2) (tgt := 112) (off := 66) hx hb dX3_repeatOn_46 (by decide) (by decide) (by decide) (by decide) ?_
        refine lv_aload_n hx hb dX3_repeatOn_112 rfl (lv_at hl 5 rfl) ?_
        refine lv_iload_n hx hb dX3_repeatOn_113 rfl (lv_at hl 2 rfl) ?_
        refine lv_iload hx hb dX3_repeatOn_114 (lv_at hl 1 rfl) ?_
        have hg4 := hRS.2.2.2.1 e
        have he10 : e < 10 := Nat.lt_of_lt_of_le he hBN.2.1
        have hnd : need (fun e => (gm0 1 e).1) (V (j + 1)).2.2 10 = need (fun e => (gm0 1 e).1) (V j).2.2 10 + if (V j).2.2 e < (gm0 1 e).1 then 0 else 1 := by rw [hv]; exact need_mup he10
        have hmz := hmn (j + 1) z hjz (Nat.le_refl _)
        have hg6 := hmcz e
        have hg7 := (hR2 1 e).2.2
        have hcz : 5 * need (fun e => (gm0 1 e).1) (V j).2.2 10 + (if (V j).2.2 e < (gm 1 e).1 then 0 else 5) ≤ 5 * need (fun e => (gm0 1 e).1) (V (j + 1)).2.2 10 := by rw [hnd]; split <;> split <;> omega
        have hsz : 2111 * need (fun e => (gm0 1 e).1) (V j).2.2 10 + (if (V j).2.2 e < (gm 1 e).1 then 0 else 2 * (gm 1 e).1 + 43) ≤ 2111 * need (fun e => (gm0 1 e).1) (V (j + 1)).2.2 10 := by rw [hnd]; split <;> split <;> omega
        refine g_doneI X h (x_runV X h (k := (1, 1, 0, 0)) (m_X0_setMark I 1 hL hW hR2 (Nat.le_of_ble_eq_true rfl) (V j).2.1 (V j).2.2 hB (fun e2 _ => hmcz e2) d e hd he _) F_X0_setMark q712 q488 q489 (hL (1, 1, 0, 0) ⟨by decide, rfl, rfl⟩) rfl rfl rfl (Nat.le_of_ble_eq_true rfl) (Nat.le_of_ble_eq_true rfl) ⟨by show _ ≤ 5 * need (fun e => (gm0 1 e).1) (V z).2.2 10; omega, by show _ ≤ 2111 * need (fun e => (gm0 1 e).1) (V z).2.2 10; omega⟩ hl.1 (Nat.le_of_ble_eq_true rfl) dX3_repeatOn_116 rfl) (fun r u H locs hP h => ?_)
        obtain ⟨-, gm1, v7, hgo, hgn, hGM1, hst1, hL1, hW1, ha1⟩ := hP
        obtain ⟨ad1, Ks1, st1⟩ := u
        have h := h.congr hst1
        have ha1 : ∀ k, k ∈ Ks → k.1 ≠ 8 → ad1 k = ad k := ha1
        obtain ⟨I1, hI1⟩ : ∃ x : Mem, x = sset (addM (nxtM I 1 d) 1 e d ((V j).2.2 e) (I (1, 1, 0, 0) 0)) (7, 1, e, 0) v7 := ⟨_, rfl⟩
        have h : Sx D (wA ad0 Ks0 s.heap.size) ad1 Ks1 (lay tc ad1 gm1 dz I1) s H locs := h.eq (congrArg (lay tc ad1 gm1 dz) hI1.symm)
        have hm10 : I (1, 1, 0, 0) = (V j).1 (1, 0, 0, 0) := hS.at 1 0 0 (by decide)
        have hS2 : SB 1 0 (V (j + 1)).2.2 I0 I1 (V (j + 1)).1 := by rw [hv, hI1, hm10]; exact ((hS.nxt d).add e d _).lst e v7
        have hRS2 : RS V I0 gm0 ad0 Ks0 (j + 1) ad1 Ks1 gm1 I1 := by
          refine ⟨hS2, hGM1, fun b2 e2 q => (hgo b2 e2 (fun y => q y.1)).trans (hRS.2.2.1 b2 e2 q), fun e2 => ?_, hL1, hW1, fun k q q8 => ?_⟩
          · rw [hv]
            show (gm1 1 e2).1 = max (gm0 1 e2).1 (mup (V j).2.2 e e2)
            by_cases y : e2 = e
            · subst y; rw [hgn, mup_eq, hg4]; omega
            · rw [hgo 1 e2 (fun x => y x.2), mup_ne y]; exact hRS.2.2.2.1 e2
          · rw [← hRS.2.2.2.2.2.2 k q q8]
            refine ha1 k (hL k (lvS_mono (fun b2 e2 => ?_) k q8 (hW0 k q))) q8
            by_cases y : b2 = 1
            · subst y; rw [hRS.2.2.2.1 e2]; exact Nat.le_max_left _ _
            · rw [hRS.2.2.1 b2 e2 y]; exact Nat.le_refl _
        refine W.widen (k := 5 * need (fun e => (gm0 1 e).1) (V (j + 1)).2.2 10) (n := 2111 * need (fun e => (gm0 1 e).1) (V (j + 1)).2.2 10) hcz hsz ?_
        rw [eA, eB] at hl
        refine lv_pop hx hb dX3_repeatOn_119 rfl ?_
        refine lv_goto (tgt := 156) hx hb dX3_repeatOn_120 (by decide) ?_
        refine n_iinc (j := j) (n := 1) (lv' := [(2, .int (nI (j + 1))), (5, .int (nI 0)), (4, .int (nI e)), (3, .int (nI d)), (0, .ref (ad0 (20, 0, 0, 0))), (1, .ref (ad0 (1, 1, 0, 0)))]) hx hb dX3_repeatOn_156 hl (k := 3) rfl (by decide) (by decide) rfl (fun ls hl => ?_)
        refine lv_goto (tgt := 2) hx hb dX3_repeatOn_159 (by decide) ?_
        exact ih ad1 Ks1 gm1 I1 hjz hRS2 H locs ls h (lv_sub hl [0, 4, 5] rfl)
      · rw [ha]
        rw [ha] at hl
        have hl : lv_has ls 6 [(5, .int F), (4, .int (nI q)), (3, .int (nI e)), (2, .int (nI j)), (0, .ref (ad (20, 0, 0, 0))), (1, .ref (ad (1, 1, 0, 0)))] := hl
        refine lv_tableIn (x := nI 3) (tgt := 123) (off := 77) hx hb dX3_repeatOn_46 (by decide) (by decide) (by decide) (by decide) ?_
        refine lv_aload_n hx hb dX3_repeatOn_123 rfl (lv_at hl 5 rfl) ?_
        refine lv_iload_n hx hb dX3_repeatOn_124 rfl (lv_at hl 2 rfl) ?_
        refine lv_iload hx hb dX3_repeatOn_125 (lv_at hl 1 rfl) ?_
        refine lv_iload hx hb dX3_repeatOn_127 (lv_at hl 0 rfl) ?_
        refine x_doneI X h (x_runV X h (k := (1, 1, 0, 0)) (m_X0_shareFields I 1 hL hG (Nat.le_of_ble_eq_true rfl) (V j).2.1 (V j).2.2 hB e q F he hq _) F_X0_shareFields q713 q594 q595 (hL (1, 1, 0, 0) ⟨by omega, rfl, rfl⟩) rfl rfl rfl (Nat.le_of_ble_eq_true rfl) (Nat.le_of_ble_eq_true rfl) ⟨hcj, hsj⟩ hl.1 (Nat.le_of_ble_eq_true rfl) dX3_repeatOn_129 rfl) (fun H locs h => ?_)
        refine lv_pop hx hb dX3_repeatOn_132 rfl ?_
        refine lv_goto (tgt := 156) hx hb dX3_repeatOn_133 (by decide) ?_
        refine n_iinc (j := j) (n := 1) (lv' := [(2, .int (nI (j + 1))), (5, .int F), (4, .int (nI q)), (3, .int (nI e)), (0, .ref (ad (20, 0, 0, 0))), (1, .ref (ad (1, 1, 0, 0)))]) hx hb dX3_repeatOn_156 hl (k := 3) rfl (by decide) (by decide) rfl (fun ls hl => ?_)
        refine lv_goto (tgt := 2) hx hb dX3_repeatOn_159 (by decide) ?_
        have hRS2 : RS V I0 gm0 ad0 Ks0 (j + 1) ad Ks gm (shrM I 1 e q F 6) := hRS.plain hv (hS.shr e q F 6)
        have hvm : (V (j + 1)).2.2 = (V j).2.2 := by rw [hv]
        refine W.widen (k := 5 * need (fun e => (gm0 1 e).1) (V (j + 1)).2.2 10) (n := 2111 * need (fun e => (gm0 1 e).1) (V (j + 1)).2.2 10) (by rw [hvm]; exact Nat.le_refl _) (by rw [hvm]; exact Nat.le_refl _) ?_
        rw [eA, eB] at hl
        exact ih ad Ks gm (shrM I 1 e q F 6) hjz hRS2 H locs ls h (lv_sub hl [0, 4, 5] rfl)
      · rw [ha]
        rw [ha] at hl
        have hl : lv_has ls 6 [(5, .int (nI 0)), (4, .int (nI d2)), (3, .int (nI d)), (2, .int (nI j)), (0, .ref (ad (20, 0, 0, 0))), (1, .ref (ad (1, 1, 0, 0)))] := hl
        refine lv_tableIn (x := nI 4) (tgt := 136) (off := 90) hx hb dX3_repeatOn_46 (by decide) (by decide) (by decide) (by decide) ?_
        refine lv_aload_n hx hb dX3_repeatOn_136 rfl (lv_at hl 5 rfl) ?_
        refine lv_iload_n hx hb dX3_repeatOn_137 rfl (lv_at hl 2 rfl) ?_
        refine lv_iload hx hb dX3_repeatOn_138 (lv_at hl 1 rfl) ?_
        refine x_doneI X h (x_runV X h (k := (1, 1, 0, 0)) (m_X0_mergeDevices I 1 hL hG (Nat.le_of_ble_eq_true rfl) (V j).2.1 (V j).2.2 hB d d2 hd hd2 hne _) F_X0_mergeDevices q714 q609 q610 (hL (1, 1, 0, 0) ⟨by omega, rfl, rfl⟩) rfl rfl rfl (Nat.le_of_ble_eq_true rfl) (Nat.le_of_ble_eq_true rfl) ⟨hcj, hsj⟩ hl.1 (Nat.le_of_ble_eq_true rfl) dX3_repeatOn_140 rfl) (fun H locs h => ?_)
        refine lv_pop hx hb dX3_repeatOn_143 rfl ?_
        refine lv_goto (tgt := 156) hx hb dX3_repeatOn_144 (by decide) ?_
        refine n_iinc (j := j) (n := 1) (lv' := [(2, .int (nI (j + 1))), (5, .int (nI 0)), (4, .int (nI d2)), (3, .int (nI d)), (0, .ref (ad (20, 0, 0, 0))), (1, .ref (ad (1, 1, 0, 0)))]) hx hb dX3_repeatOn_156 hl (k := 3) rfl (by decide) (by decide) rfl (fun ls hl => ?_)
        refine lv_goto (tgt := 2) hx hb dX3_repeatOn_159 (by decide) ?_
        have hRS2 : RS V I0 gm0 ad0 Ks0 (j + 1) ad Ks gm (mgdM I 1 d d2 (V j).2.2 (V j).2.1) := hRS.plain hv (hS.mgd d d2 (V j).2.1)
        have hvm : (V (j + 1)).2.2 = (V j).2.2 := by rw [hv]
        refine W.widen (k := 5 * need (fun e => (gm0 1 e).1) (V (j + 1)).2.2 10) (n := 2111 * need (fun e => (gm0 1 e).1) (V (j + 1)).2.2 10) (by rw [hvm]; exact Nat.le_refl _) (by rw [hvm]; exact Nat.le_refl _) ?_
        rw [eA, eB] at hl
        exact ih ad Ks gm (mgdM I 1 d d2 (V j).2.2 (V j).2.1) hjz hRS2 H locs ls h (lv_sub hl [0, 4, 5] rfl)
      · rw [ha]
        rw [ha] at hl
        have hl : lv_has ls 6 [(5, .int (nI 0)), (4, .int (nI 0)), (3, .int k), (2, .int (nI j)), (0, .ref (ad (20, 0, 0, 0))), (1, .ref (ad (1, 1, 0, 0)))] := hl
        refine lv_tableIn (x := nI 5) (tgt := 147) (off := 101) hx hb dX3_repeatOn_46 (by decide) (by decide) (by decide) (by decide) ?_
        refine lv_aload_n hx hb dX3_repeatOn_147 rfl (lv_at hl 5 rfl) ?_
        refine lv_iload_n hx hb dX3_repeatOn_148 rfl (lv_at hl 2 rfl) ?_
        refine x_doneI X h (x_runV X h (k := (1, 1, 0, 0)) (m_X0_passMonths I 1 hL hG (Nat.le_of_ble_eq_true rfl) (V j).2.1 (V j).2.2 hB k _) F_X0_passMonths q715 q655 q656 (hL (1, 1, 0, 0) ⟨by omega, rfl, rfl⟩) rfl rfl rfl (Nat.le_of_ble_eq_true rfl) (Nat.le_of_ble_eq_true rfl) ⟨hcj, hsj⟩ hl.1 (Nat.le_of_ble_eq_true rfl) dX3_repeatOn_149 rfl) (fun H locs h => ?_)
        refine lv_pop hx hb dX3_repeatOn_152 rfl ?_
        refine lv_goto (tgt := 156) hx hb dX3_repeatOn_153 (by decide) ?_
        refine n_iinc (j := j) (n := 1) (lv' := [(2, .int (nI (j + 1))), (5, .int (nI 0)), (4, .int (nI 0)), (3, .int k), (0, .ref (ad (20, 0, 0, 0))), (1, .ref (ad (1, 1, 0, 0)))]) hx hb dX3_repeatOn_156 hl (k := 3) rfl (by decide) (by decide) rfl (fun ls hl => ?_)
        refine lv_goto (tgt := 2) hx hb dX3_repeatOn_159 (by decide) ?_
        have hRS2 : RS V I0 gm0 ad0 Ks0 (j + 1) ad Ks gm (pasM I 1 (V j).2.2 k (V j).2.1) := hRS.plain hv (hS.pas k (V j).2.1)
        have hvm : (V (j + 1)).2.2 = (V j).2.2 := by rw [hv]
        refine W.widen (k := 5 * need (fun e => (gm0 1 e).1) (V (j + 1)).2.2 10) (n := 2111 * need (fun e => (gm0 1 e).1) (V (j + 1)).2.2 10) (by rw [hvm]; exact Nat.le_refl _) (by rw [hvm]; exact Nat.le_refl _) ?_
        rw [eA, eB] at hl
        exact ih ad Ks gm (pasM I 1 (V j).2.2 k (V j).2.1) hjz hRS2 H locs ls h (lv_sub hl [0, 4, 5] rfl)
