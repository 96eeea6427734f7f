section STEP
variable {I X : Mem} {gm gm' : GM} {V : Nat → BS} {acts : Nat → Act} {z : Nat} {L : Nat → Nat → Int32 → Int32} {n m t c : Nat} {ac mcs mcs' : Nat → Nat}
theorem st_mem {O S : Mem} {a b c' d' e' : Int32} (hO : SB 0 0 mcs' (jwM I z a b c' d' e') O S) (hX : ∀ k : KN, k.1 < 50 → X k = O k) : ∀ k, 30 ≤ k → k ≤ 42 → X (k, 0, 0, 0) = I (k, 0, 0, 0) := fun k h1 h2 => by
  rw [hX _ (by show k < 50; omega), hO.2 _ (Or.inr (Or.inl (by show 20 ≤ k; omega)))]
  exact jw_see (by show k ≠ 20; omega) (by show k ≠ 21; omega) (by show k ≠ 22; omega) (by show k ≠ 23; omega) (by show k ≠ 24; omega) (by show k ≠ 25; omega)
theorem step_entry (h : LI I gm V acts z L n m t ac mcs c) {d : Nat} (hd : d < 6) (hn : n < 10) (hX : ∀ k : KN, k.1 < 50 → X k = mkeM (jwM I z (nI 0) (nI d) (nI 0) (nI 0) (nI 0)) 0 d n k) : LInv (mEntM X d n) gm (c + 1) := by
  have h' := h
  obtain ⟨h1, h2, h3, h4, h5, h6, h7, h8, h9, h10, h11, h12⟩ := h
  have hO := (jw_SB (z := z) (a := nI 0) (b := nI d) (c := nI 0) (d := nI 0) (e := nI 0) h4).mke d n
  exact li_act (n' := n + 1) (mcs' := mcs) (m' := m) (t' := t) (ac' := ac) (L' := L) (a := (0, nI d, nI 0, nI 0, nI 0)) h' (Or.inl ⟨d, hd, by rw [h5]; exact hn, rfl, by rw [h5]⟩) hO (fun k hk => (mEnt_lo hk).trans (hX k (by omega))) (rel_entry (jw_rel h1 (st_mem hO hX)) hd hn) h6 h7 (by omega) (by omega) (fun d => by omega) (by omega)
theorem step_tell (h : LI I gm V acts z L n m t ac mcs c) (hc : c < 512) {d e f : Nat} (hd : d < 6) (he : e < n) (hf : f < 4) {v : Int32} (hv : v = -1 ↔ v < 0) (hX : ∀ k : KN, k.1 < 50 → X k = tllM (jwM I z (nI 1) (nI d) (nI e) (nI f) v) 0 e f d v k) : LInv (mtlM X d e f v) gm (c + 1) := by
  have h' := h
  obtain ⟨h1, h2, h3, h4, h5, h6, h7, h8, h9, h10, h11, h12⟩ := h
  have he10 : e < 10 := Nat.lt_of_lt_of_le he h1.gl.n10
  have hO := (jw_SB (z := z) (a := nI 1) (b := nI d) (c := nI e) (d := nI f) (e := v) h4).tll e f d v
  refine li_act (n' := n) (mcs' := mcs) (m' := m) (t' := t) (a := (1, nI d, nI e, nI f, v)) h' (Or.inr (Or.inl ⟨d, e, f, v, hd, by rw [h5]; exact he, hf, rfl, by rw [h5]⟩)) hO (fun k hk => (mtl_lo hk).trans (hX k (by omega))) (rel_tell (jw_rel h1 (st_mem hO hX)) hd he10 hf hv (by have := h11 d; omega)) h6 h7 (by omega) (by omega) (fun d2 => ?_) (by omega)
  by_cases q : d2 = d
  · subst q; rw [mup_eq]; omega
  · rw [mup_ne q]; omega
theorem sum_mup {e : Nat} : ∀ {k : Nat}, sumN (mup mcs e) k ≤ sumN mcs k + if e < k then 1 else 0
  | 0 => by simp [sumN]
  | k + 1 => by
    have ih := sum_mup (e := e) (k := k)
    rw [sumN, sumN]
    by_cases q : k = e
    · subst q
      rw [mup_eq, if_pos (Nat.lt_succ_self k)]
      rw [if_neg (Nat.lt_irrefl k)] at ih
      omega
    · rw [mup_ne q]
      by_cases q2 : e < k
      · rw [if_pos (by omega)]; rw [if_pos q2] at ih; omega
      · rw [if_neg (by omega)]; rw [if_neg q2] at ih; omega
theorem step_delete (h : LI I gm V acts z L n m t ac mcs c) (hc : c < 512) {d e : Nat} (hd : d < 6) (he : e < n) {v7 : Nat → Int32} (hg0 : ∀ e2, (gm' 0 e2).1 = mup mcs e e2) (hg1 : ∀ e2, (gm' 1 e2).1 = (gm 1 e2).1)
    (hX : ∀ k : KN, k.1 < 50 → X k = sset (addM (nxtM (jwM I z (nI 2) (nI d) (nI e) (nI 0) (nI 0)) 0 d) 0 e d (mcs e) (I (1, 0, 0, 0) 0)) (7, 0, e, 0) v7 k) : LInv (mdlM X d e m) gm' (c + 1) := by
  have h' := h
  obtain ⟨h1, h2, h3, h4, h5, h6, h7, h8, h9, h10, h11, h12⟩ := h
  have he10 : e < 10 := Nat.lt_of_lt_of_le he h1.gl.n10
  have hj := jw_SB (z := z) (a := nI 2) (b := nI d) (c := nI e) (d := nI 0) (e := nI 0) h4
  have e1 : jwM I z (nI 2) (nI d) (nI e) (nI 0) (nI 0) (1, 0, 0, 0) = I (1, 0, 0, 0) := jw_see (kz rfl) (kz rfl) (kz rfl) (kz rfl) (kz rfl) (kz rfl)
  have e2 : I (1, 0, 0, 0) = (V z).1 (1, 0, 0, 0) := h4.at 1 0 0 (by decide)
  have hO := ((hj.nxt d).add e d (I (1, 0, 0, 0) 0)).lst e v7
  have hr := rel_delete (jw_rel (z := z) (a := nI 2) (b := nI d) (c := nI e) (d := nI 0) (e := nI 0) h1 (st_mem hO hX)) hd he10 (show m < 600 by omega) (show ac d < 600 by have := h11 d; omega)
  rw [e1] at hr
  have hr2 := rel_congr (I' := sset (addM (nxtM (jwM I z (nI 2) (nI d) (nI e) (nI 0) (nI 0)) 0 d) 0 e d (mcs e) (I (1, 0, 0, 0) 0)) (7, 0, e, 0) v7) hr (fun k e3 d3 hk => sset_ne _ _ (fun q => by have q1 : k = 7 := congrArg (·.1) q; omega)) (fun _ _ => rfl) (fun _ _ _ => rfl)
  refine li_act (n' := n) (mcs' := mup mcs e) (m' := m + 1) (t' := t) (a := (2, nI d, nI e, nI 0, nI 0)) (S' := addM (nxtM (V z).1 0 d) 0 e d (mcs e) (I (1, 0, 0, 0) 0)) h' (Or.inr (Or.inr (Or.inl ⟨d, e, hd, by rw [h5]; exact he, rfl, by rw [h5, e2]⟩))) hO (fun k hk => (mdl_lo hk).trans (hX k (by omega))) hr2 hg0 (fun e3 => ?_) (by omega) (by omega) (fun d2 => ?_) ?_
  · rw [hg1]
    have := h7 e3
    by_cases q : e3 = e
    · subst q; rw [mup_eq]; omega
    · rw [mup_ne q]; exact this
  · by_cases q : d2 = d
    · subst q; rw [mup_eq]; omega
    · rw [mup_ne q]; omega
  · have := sum_mup (mcs := mcs) (e := e) (k := 10)
    split at this <;> omega
theorem step_share (h : LI I gm V acts z L n m t ac mcs c) {d e q x : Nat} (he : e < n) (hq : q < 3) (hx : x < 16) {F : Int32} (hF : F = nI x) (hX : ∀ k : KN, k.1 < 50 → X k = shrM (jwM I z (nI 3) (nI e) (nI q) F (nI 0)) 0 e q F 6 k) : LInv (mshM X e q F) gm (c + 1) := by
  have h' := h
  obtain ⟨h1, h2, h3, h4, h5, h6, h7, h8, h9, h10, h11, h12⟩ := h
  have he10 : e < 10 := Nat.lt_of_lt_of_le he h1.gl.n10
  have hO := (jw_SB (z := z) (a := nI 3) (b := nI e) (c := nI q) (d := F) (e := nI 0) h4).shr e q F 6
  exact li_act (n' := n) (mcs' := mcs) (m' := m) (t' := t) (ac' := ac) (a := (3, nI e, nI q, F, nI 0)) h' (Or.inr (Or.inr (Or.inr (Or.inl ⟨e, q, F, by rw [h5]; exact he, hq, rfl, by rw [h5]⟩)))) hO (fun k hk => (msh_lo hk).trans (hX k (by omega))) (rel_share (jw_rel h1 (st_mem hO hX)) he10 hq hx hF) h6 h7 (by omega) (by omega) (fun d => by omega) (by omega)
theorem step_merge (h : LI I gm V acts z L n m t ac mcs c) {d o : Nat} (hd : d < 6) (ho : o < 6) (hne : d ≠ o) (hX : ∀ k : KN, k.1 < 50 → X k = mgdM (jwM I z (nI 4) (nI d) (nI o) (nI 0) (nI 0)) 0 d o mcs n k) : LInv (mmM X d o m n) gm (c + 1) ∧ mmM X d o m n (30, 0, 0, 0) 3 + nI (100 * mmG X d o m n) = mgdR (jwM I z (nI 4) (nI d) (nI o) (nI 0) (nI 0)) 0 d o mcs n := by
  have h' := h
  obtain ⟨h1, h2, h3, h4, h5, h6, h7, h8, h9, h10, h11, h12⟩ := h
  have hO := (jw_SB (z := z) (a := nI 4) (b := nI d) (c := nI o) (d := nI 0) (e := nI 0) h4).mgd d o n
  obtain ⟨a, b⟩ := rel_mgd (jw_rel (z := z) (a := nI 4) (b := nI d) (c := nI o) (d := nI 0) (e := nI 0) h1 (st_mem hO hX)) hd ho hne n h1.gl.n10
  exact ⟨li_act (n' := n) (mcs' := mcs) (m' := m) (t' := t) (ac' := ac) (a := (4, nI d, nI o, nI 0, nI 0)) h' (Or.inr (Or.inr (Or.inr (Or.inr (Or.inl ⟨d, o, hd, ho, hne, rfl, by rw [h5]⟩))))) hO (fun k hk => (mm_lo hk n).trans (hX k (by omega))) a h6 h7 (by omega) (by omega) (fun d => by omega) (by omega), b⟩
theorem step_pass (h : LI I gm V acts z L n m t ac mcs c) (hc : c < 512) {x : Nat} (hx : x ≤ 24) (hX : ∀ k : KN, k.1 < 50 → X k = pasM (jwM I z (nI 5) (nI x) (nI 0) (nI 0) (nI 0)) 0 mcs (nI x) n k) : LInv (mpD X (nI x) n m 6) gm (c + 1) ∧ pasN (jwM I z (nI 5) (nI x) (nI 0) (nI 0) (nI 0)) 0 mcs (nI x) n = mpDn X (nI x) n m 6 := by
  have h' := h
  obtain ⟨h1, h2, h3, h4, h5, h6, h7, h8, h9, h10, h11, h12⟩ := h
  have hO := (jw_SB (z := z) (a := nI 5) (b := nI x) (c := nI 0) (d := nI 0) (e := nI 0) h4).pas (nI x) n
  obtain ⟨a, b⟩ := rel_pass (jw_rel (z := z) (a := nI 5) (b := nI x) (c := nI 0) (d := nI 0) (e := nI 0) h1 (st_mem hO hX)) (x := x) (by omega)
  exact ⟨li_act (n' := n) (mcs' := mcs) (m' := m) (t' := t + x) (ac' := ac) (a := (5, nI x, nI 0, nI 0, nI 0)) h' (Or.inr (Or.inr (Or.inr (Or.inr (Or.inr ⟨nI x, rfl, by rw [h5]⟩))))) hO (fun k hk => (mpD_lo hk 6).trans (hX k (by omega))) a h6 h7 (by omega) (by omega) (fun d => by omega) (by omega), b⟩
/-- the second books written anew -/
theorem step_anew (h : LI I gm V acts z L n m t ac mcs c) {ad ad1 : KN → Nat} {Ks Ks1 : List KN} {gm1 : GM} {I1 : Mem} (hRS : RS V (zerM I) gm ad Ks z ad1 Ks1 gm1 I1) : LInv I1 gm1 c := by
  obtain ⟨h1, h2, h3, h4, h5, h6, h7, h8, h9, h10, h11, h12⟩ := h
  obtain ⟨r1, r2, r3, r4, r5⟩ := hRS
  have q : ∀ k : KN, k.2.1 ≠ 1 → I1 k = I k := fun k hk => (r1.2 k (Or.inl hk)).trans (zer_ne (fun z => hk z.1))
  refine ⟨V, acts, z, L, n, m, t, ac, mcs, ?_, ?_, h3, ?_, h5, fun e => ?_, fun e => ?_, h8, h9, h10, h11, h12⟩
  · exact rel_congr h1 (fun k e d _ => q _ (by show (0 : Nat) ≠ 1; decide)) (fun j _ => by rw [q _ (by show (0 : Nat) ≠ 1; decide)]) (fun k _ _ => q _ (by show (0 : Nat) ≠ 1; decide))
  · have q2 : ∀ k, I1 (k, 0, 0, 0) = I (k, 0, 0, 0) := fun k => q _ (by show (0 : Nat) ≠ 1; decide)
    unfold JR
    rw [q2, q2, q2, q2, q2, q2]
    exact h2
  · exact ⟨fun k e d hk => (q _ (by show (0 : Nat) ≠ 1; decide)).trans (h4.1 k e d hk), fun _ _ => rfl⟩
  · rw [r3 0 e (by decide)]; exact h6 e
  · rw [r4 e, h5]
    exact Nat.max_le.mpr ⟨h7 e, Nat.le_refl _⟩
end STEP
