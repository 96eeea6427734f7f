/-! values by their places -/
theorem tel_cnt {J : Mem} {d e f : Nat} : ∀ r k left, k + r = 6 → (tel J d e f r k left < 6 ↔ left < cntN (fun i => decide (0 < J (35, 0, 0, 0) (24 * (10 * d + e) + 6 * f + (k + i)))) r)
  | 0, k, left, _ => by rw [tel, cntN]; omega
  | r + 1, k, left, hk => by
    have hl2 : cntN (fun i => decide (0 < J (35, 0, 0, 0) (24 * (10 * d + e) + 6 * f + (k + i)))) (r + 1) = (if decide (0 < J (35, 0, 0, 0) (24 * (10 * d + e) + 6 * f + k)) then 1 else 0) + cntN (fun i => decide (0 < J (35, 0, 0, 0) (24 * (10 * d + e) + 6 * f + (k + 1 + i)))) r := by
      have q := cntN_add (fun i => decide (0 < J (35, 0, 0, 0) (24 * (10 * d + e) + 6 * f + (k + i)))) 1 r
      rw [Nat.add_comm 1 r] at q
      rw [q]
      congr 1
      · show 0 + _ = _
        rw [Nat.zero_add]
        rfl
      · exact cntN_congr (fun i _ => by rw [show k + (1 + i) = k + 1 + i by omega])
    rw [hl2, tel]
    by_cases hp : 0 < J (35, 0, 0, 0) (24 * (10 * d + e) + 6 * f + k)
    · rw [if_pos hp, decide_eq_true hp, if_pos rfl]
      by_cases q : left = 0
      · rw [if_pos q]; omega
      · rw [if_neg q, tel_cnt r (k + 1) (left - 1) (by omega)]; omega
    · rw [if_neg hp, decide_eq_false hp, if_neg (by decide), tel_cnt r (k + 1) left (by omega)]; omega
theorem cnF_0 (J : Mem) (d e f : Nat) : cntN (fun i => decide (0 < J (35, 0, 0, 0) (24 * (10 * d + e) + 6 * f + (0 + i)))) 6 = cnF J d e f := cntN_congr (fun i _ => by rw [Nat.zero_add])
theorem cvF_0 (B : Nat → Int32) (f : Nat) : cntN (fun i => nz (B (f * 6 + (0 + i)))) 6 = cvF B f := cntN_congr (fun i _ => by rw [Nat.zero_add])
section VALS
variable {I J : Mem} {L : Nat → Nat → Int32 → Int32} {n m t : Nat} {ac mcs : Nat → Nat}
theorem val_ok (R : Rel I J L n m t ac mcs) {d e f j : Nat} (hd : d < 6) (he : e < 10) (hf : f < 4) (hj : j < cvF (I (10, 0, e, d)) f) : tel J d e f 6 0 j < 6 ∧ vFrom (I (10, 0, e, d)) (I (11, 0, e, d)) f 6 0 j = mvlI J d e f j := by
  refine ⟨(tel_cnt 6 0 j rfl).mpr ?_, rl_val (R.cp e d he hd) hf 6 0 j rfl ?_⟩
  · rw [cnF_0, ← rl_cnF (R.cp e d he hd) hf]; exact hj
  · rw [cvF_0]; exact hj
theorem val_out (R : Rel I J L n m t ac mcs) {d e f j : Nat} (hd : d < 6) (he : e < 10) (hf : f < 4) (hj : ¬ j < cvF (I (10, 0, e, d)) f) : tel J d e f 6 0 j = 6 := by
  have h1 := tel_le (I := J) (d := d) (e := e) (f := f) 6 0 j rfl
  have h2 : ¬ tel J d e f 6 0 j < 6 := fun q => hj (by
    have q := (tel_cnt 6 0 j rfl).mp q
    rw [cnF_0, ← rl_cnF (R.cp e d he hd) hf] at q
    exact q)
  omega
theorem val_split (R : Rel I J L n m t ac mcs) (x y z w : Int32) :
    ((ckn I 0 n x y && (isFld z && cix I 0 x y z w)) = false ∧ ((ckn I 0 n x y && (isFld z && !decide (w < 0))) = false ∨ ∃ d e f j, d < 6 ∧ e < n ∧ f < 4 ∧ j < 2 ^ 31 ∧ x = nI d ∧ y = nI e ∧ z = nI f ∧ w = nI j ∧ nz (I (9, 0, e, d) 0) = true ∧ ¬ j < cvF (I (10, 0, e, d)) f)) ∨
    ∃ d e f j, d < 6 ∧ e < n ∧ f < 4 ∧ j < 2 ^ 31 ∧ x = nI d ∧ y = nI e ∧ z = nI f ∧ w = nI j ∧ nz (I (9, 0, e, d) 0) = true ∧ j < cvF (I (10, 0, e, d)) f := by
  have hn10 := R.gl.n10
  rcases ck_split (I := I) hn10 x y with q | ⟨d, e, hd, he, rfl, rfl, hk⟩
  · exact Or.inl ⟨by rw [q]; rfl, Or.inl (by rw [q]; rfl)⟩
  rcases fld_split z with q | ⟨f, hf, rfl⟩
  · exact Or.inl ⟨by rw [q, Bool.false_and, Bool.and_false], Or.inl (by rw [q, Bool.false_and, Bool.and_false])⟩
  by_cases hw : w < 0
  · refine Or.inl ⟨?_, Or.inl ?_⟩
    · unfold cix; rw [decide_eq_true hw, Bool.not_true, Bool.false_and, Bool.and_false, Bool.and_false]
    · rw [decide_eq_true hw, Bool.not_true, Bool.and_false, Bool.and_false]
  have hw0 : 0 ≤ w.toInt := Int.not_lt.mp (fun q => hw (Int32.lt_iff_toInt_lt.mpr q))
  have hw1 : w.toInt < 2 ^ 31 := Int32.toInt_lt w
  have hwj : w = nI w.toInt.toNat := i_ext (by rw [i_nI (by omega)]; omega)
  have hj31 : w.toInt.toNat < 2 ^ 31 := by omega
  generalize w.toInt.toNat = j at hwj hj31
  subst hwj
  by_cases hj : j < cvF (I (10, 0, e, d)) f
  · exact Or.inr ⟨d, e, f, j, hd, he, hf, hj31, rfl, rfl, rfl, rfl, hk, hj⟩
  · refine Or.inl ⟨?_, Or.inr ⟨d, e, f, j, hd, he, hf, hj31, rfl, rfl, rfl, rfl, hk, hj⟩⟩
    have h6 := cvF_le (I (10, 0, e, d)) f
    unfold cix
    rw [nI_clamp (by omega), nI_clamp (by omega), nI_clamp (by omega), decide_eq_false (fun q => hj ((nI_ltI hj31 (by omega)).mp q)), Bool.and_false, Bool.and_false, Bool.and_false]
end VALS
set_option maxRecDepth 100000 in
theorem ag_all : ∀ a, a < 41 → ∀ b, b < 41 → FP.f2d (agF a b) &&& 0x7fffffffffffffff ≤ 0x7ff0000000000000 ∧ FP.dcmp (FP.f2d (agF a b)) (FP.f2d (agF a b)) = some .eq := by decide +kernel
section CALLS3
variable {l : Launch} {D : va_G} {tc : TC} {dz : Nat} {ad : KN → Nat} {Ks : List KN} {gm : GM} {I : Mem} {c : Nat} {A : Nat → Prop}
set_option maxHeartbeats 1000000 in
theorem ca_state (hst : l.stackTraces = false) (hd0 : Hd A ad Ks) (hL : LV gm Ks) (hW : LW gm Ks) (hG2 : GM2 gm) (hI : LInv I gm c) (hc : c < 512) (x y : Int32) : CAS l D tc dz ad Ks gm I c yL_state cL_state 5 [(0, 10, 13, 13)] yX7_state cX7_state 4 [.int x, .int y] := by
  obtain ⟨V, acts, z', L, n, m, t, ac, mcs, hLI⟩ := id hI
  have R := hLI.1
  have hB := li_bk hLI
  have hG := hG2.ok
  have hn := R.gl.nJ
  have hn10 := R.gl.n10
  have hm := R.gl.mJ
  have hm5 : m ≤ 1000 := Nat.le_trans R.mb (by decide)
  have hS := hLI.2.2.2.1
  have hz5 := hLI.2.1.1
  have hz6 : z' < 512 := Nat.lt_of_le_of_lt hLI.2.2.2.2.2.2.2.1 hc
  cases h0 : (isDev x && isEnt n y) with
  | false =>
    exact cas_x hI (k := 1) (by decide) (w_state_1 I hL (lv := 9) (by decide) x y (gox_of_mx hd0 hL hW hG2 (x_X6_state_1 I hst hL hG n mcs hB x y h0))) (fun ad1 Ks1 hL1 => ⟨2, nI 0, by decide, m_X7_state_1 I hL1 n hn hn10 x y h0⟩)
  | true =>
    rcases dev_split x with q | ⟨d, hd, rfl⟩
    · rw [q] at h0; cases h0
    rcases ent_split hn10 y with q | ⟨e, he, rfl⟩
    · rw [q, Bool.and_false] at h0; cases h0
    have he10 : e < 10 := Nat.lt_of_lt_of_le he hn10
    refine cas_q hI _ (w_state_0 I hL (lv := 9) (by decide) (nI d) (nI e) (go_of_mi hd0 hL hW hG2 (m_X6_state I hL hG n mcs hB d e hd he))) (fun X hX ad1 Ks1 hL1 => ⟨4, by decide, ?_⟩)
    have RX := rel_30 R hX
    rw [rl_sto (rel_0 RX) he10 hd]
    exact m_X7_state_0 X hL1 n RX.gl.nJ hn10 m RX.gl.mJ hm5 d e hd he
set_option maxHeartbeats 1000000 in
theorem ca_value (hst : l.stackTraces = false) (hd0 : Hd A ad Ks) (hL : LV gm Ks) (hW : LW gm Ks) (hG2 : GM2 gm) (hI : LInv I gm c) (hc : c < 512) (x y z w : Int32) : CAS l D tc dz ad Ks gm I c yL_value cL_value 7 [(0, 14, 17, 13)] yX7_value cX7_value 5 [.int x, .int y, .int z, .int w] := by
  obtain ⟨V, acts, z', L, n, m, t, ac, mcs, hLI⟩ := id hI
  have R := hLI.1
  have hB := li_bk hLI
  have hG := hG2.ok
  have hn := R.gl.nJ
  have hn10 := R.gl.n10
  have hm := R.gl.mJ
  have hm5 : m ≤ 1000 := Nat.le_trans R.mb (by decide)
  have hS := hLI.2.2.2.1
  have hz5 := hLI.2.1.1
  have hz6 : z' < 512 := Nat.lt_of_le_of_lt hLI.2.2.2.2.2.2.2.1 hc
  rcases val_split R x y z w with ⟨h0, h1⟩ | ⟨d, e, f, j, hd, he, hf, hj31, rfl, rfl, rfl, rfl, hk, hj⟩
  · refine cas_x hI (k := 1) (by decide) (w_value_1 I hL (lv := 9) (by decide) x y z w (gox_of_mx hd0 hL hW hG2 (x_X6_value_1 I hst hL hG n mcs hB x y z w h0))) (fun ad1 Ks1 hL1 => ⟨4, nI 0, by decide, ?_⟩)
    rcases h1 with h1 | ⟨d, e, f, j, hd, he, hf, hj31, rfl, rfl, rfl, rfl, hk, hj⟩
    · exact m_X7_value_1 I hL1 n hn hn10 x y z w (by rw [rl_ckn R]; exact h1)
    · have he10 : e < 10 := Nat.lt_of_lt_of_le he hn10
      exact m_X7_value_2 I hL1 n hn hn10 d e f j hd he hf hj31 (by rw [← (R.cp e d he10 hd).kn]; exact hk) (val_out R hd he10 hf hj)
  · have he10 : e < 10 := Nat.lt_of_lt_of_le he hn10
    refine cas_q hI _ (w_value_0 I hL (lv := 9) (by decide) (nI d) (nI e) (nI f) (nI j) (go_of_mi hd0 hL hW hG2 (m_X6_value I hL hG n mcs hB d e f hd he hf hk j hj))) (fun X hX ad1 Ks1 hL1 => ⟨4, by decide, ?_⟩)
    have RX := rel_30 R hX
    obtain ⟨v1, v2⟩ := val_ok RX hd he10 hf hj
    rw [v2]
    exact m_X7_value_0 X hL1 n RX.gl.nJ hn10 d e f j hd he hf hj31 (by rw [← (RX.cp e d he10 hd).kn]; exact hk) v1
set_option maxHeartbeats 1000000 in
theorem ca_values (hst : l.stackTraces = false) (hd0 : Hd A ad Ks) (hL : LV gm Ks) (hW : LW gm Ks) (hG2 : GM2 gm) (hI : LInv I gm c) (hc : c < 512) (x y z : Int32) : CAS l D tc dz ad Ks gm I c yL_values cL_values 6 [(0, 12, 15, 13)] yX7_values cX7_values 5 [.int x, .int y, .int z] := by
  obtain ⟨V, acts, z', L, n, m, t, ac, mcs, hLI⟩ := id hI
  have R := hLI.1
  have hB := li_bk hLI
  have hG := hG2.ok
  have hn := R.gl.nJ
  have hn10 := R.gl.n10
  have hm := R.gl.mJ
  have hm5 : m ≤ 1000 := Nat.le_trans R.mb (by decide)
  have hS := hLI.2.2.2.1
  have hz5 := hLI.2.1.1
  have hz6 : z' < 512 := Nat.lt_of_le_of_lt hLI.2.2.2.2.2.2.2.1 hc
  cases h0 : (ckn I 0 n x y && isFld z) with
  | false =>
    exact cas_x hI (k := 1) (by decide) (w_values_1 I hL (lv := 9) (by decide) x y z (gox_of_mx hd0 hL hW hG2 (x_X6_values_1 I hst hL hG n mcs hB x y z h0))) (fun ad1 Ks1 hL1 => ⟨3, nI 0, by decide, m_X7_values_1 I hL1 n hn hn10 x y z (by rw [rl_ckn R]; exact h0)⟩)
  | true =>
    rcases ck_split (I := I) hn10 x y with q | ⟨d, e, hd, he, rfl, rfl, hk⟩
    · rw [q] at h0; cases h0
    rcases fld_split z with q | ⟨f, hf, rfl⟩
    · rw [q, Bool.and_false] at h0; cases h0
    have he10 : e < 10 := Nat.lt_of_lt_of_le he hn10
    refine cas_q hI _ (w_values_0 I hL (lv := 9) (by decide) (nI d) (nI e) (nI f) (go_of_mi hd0 hL hW hG2 (m_X6_values I hL hG n mcs hB d e f hd he hf hk))) (fun X hX ad1 Ks1 hL1 => ⟨3, by decide, ?_⟩)
    have RX := rel_30 R hX
    rw [rl_cnF (RX.cp e d he10 hd) hf]
    exact m_X7_values_0 X hL1 n RX.gl.nJ hn10 d e f hd he hf (by rw [← (RX.cp e d he10 hd).kn]; exact hk)
set_option maxHeartbeats 1000000 in
theorem ca_seen (hst : l.stackTraces = false) (hd0 : Hd A ad Ks) (hL : LV gm Ks) (hW : LW gm Ks) (hG2 : GM2 gm) (hI : LInv I gm c) (hc : c < 512) (x y z w : Int32) : CAS l D tc dz ad Ks gm I c yL_seen cL_seen 7 [(0, 14, 17, 13)] yX7_seen cX7_seen 6 [.int x, .int y, .int z, .int w] := by
  obtain ⟨V, acts, z', L, n, m, t, ac, mcs, hLI⟩ := id hI
  have R := hLI.1
  have hB := li_bk hLI
  have hG := hG2.ok
  have hn := R.gl.nJ
  have hn10 := R.gl.n10
  have hm := R.gl.mJ
  have hm5 : m ≤ 1000 := Nat.le_trans R.mb (by decide)
  have hS := hLI.2.2.2.1
  have hz5 := hLI.2.1.1
  have hz6 : z' < 512 := Nat.lt_of_le_of_lt hLI.2.2.2.2.2.2.2.1 hc
  cases h0 : (ckn I 0 n x y && (isFld z && isDev w)) with
  | false =>
    exact cas_x hI (k := 1) (by decide) (w_seen_1 I hL (lv := 9) (by decide) x y z w (gox_of_mx hd0 hL hW hG2 (x_X6_seen_1 I hst hL hG n mcs hB x y z w h0))) (fun ad1 Ks1 hL1 => ⟨3, nI 0, by decide, m_X7_seen_1 I hL1 n hn hn10 x y z w (by rw [rl_ckn R]; exact h0)⟩)
  | true =>
    rcases ck_split (I := I) hn10 x y with q | ⟨d, e, hd, he, rfl, rfl, hk⟩
    · rw [q] at h0; cases h0
    rcases fld_split z with q | ⟨f, hf, rfl⟩
    · rw [q, Bool.false_and, Bool.and_false] at h0; cases h0
    rcases dev_split w with q | ⟨j, hj, rfl⟩
    · rw [q, Bool.and_false, Bool.and_false] at h0; cases h0
    have he10 : e < 10 := Nat.lt_of_lt_of_le he hn10
    refine cas_q hI _ (w_seen_0 I hL (lv := 9) (by decide) (nI d) (nI e) (nI f) (nI j) (go_of_mi hd0 hL hW hG2 (m_X6_seen I hL hG n mcs hB d e f hd he hf hk j hj))) (fun X hX ad1 Ks1 hL1 => ⟨3, by decide, ?_⟩)
    have RX := rel_30 R hX
    rw [(RX.cp e d he10 hd).se (f * 6 + j) (by omega), show cl d e (f * 6 + j) = 24 * (10 * d + e) + 6 * f + j by unfold cl; omega]
    exact m_X7_seen_0 X hL1 n RX.gl.nJ hn10 d e f j hd he hf hj (by rw [← (RX.cp e d he10 hd).kn]; exact hk)
set_option maxHeartbeats 1000000 in
theorem ca_marks (hst : l.stackTraces = false) (hd0 : Hd A ad Ks) (hL : LV gm Ks) (hW : LW gm Ks) (hG2 : GM2 gm) (hI : LInv I gm c) (hc : c < 512) (x y : Int32) : CAS l D tc dz ad Ks gm I c yL_marks cL_marks 5 [(0, 10, 13, 13)] yX7_marks cX7_marks 6 [.int x, .int y] := by
  obtain ⟨V, acts, z', L, n, m, t, ac, mcs, hLI⟩ := id hI
  have R := hLI.1
  have hB := li_bk hLI
  have hG := hG2.ok
  have hn := R.gl.nJ
  have hn10 := R.gl.n10
  have hm := R.gl.mJ
  have hm5 : m ≤ 1000 := Nat.le_trans R.mb (by decide)
  have hS := hLI.2.2.2.1
  have hz5 := hLI.2.1.1
  have hz6 : z' < 512 := Nat.lt_of_le_of_lt hLI.2.2.2.2.2.2.2.1 hc
  cases h0 : ckn I 0 n x y with
  | false =>
    exact cas_x hI (k := 1) (by decide) (w_marks_1 I hL (lv := 9) (by decide) x y (gox_of_mx hd0 hL hW hG2 (x_X6_marks_1 I hst hL hG n mcs hB x y h0))) (fun ad1 Ks1 hL1 => ⟨3, nI 0, by decide, m_X7_marks_1 I hL1 n hn hn10 x y (by rw [rl_ckn R]; exact h0)⟩)
  | true =>
    rcases ck_split (I := I) hn10 x y with q | ⟨d, e, hd, he, rfl, rfl, hk⟩
    · rw [q] at h0; cases h0
    have he10 : e < 10 := Nat.lt_of_lt_of_le he hn10
    refine cas_q hI _ (w_marks_0 I hL (lv := 9) (by decide) (nI d) (nI e) (go_of_mi hd0 hL hW hG2 (m_X6_marks I hL hG n mcs hB d e hd he hk))) (fun X hX ad1 Ks1 hL1 => ⟨3, by decide, ?_⟩)
    have RX := rel_30 R hX
    rw [rl_mrk (rel_0 RX) he10 hd]
    exact m_X7_marks_0 X hL1 n RX.gl.nJ hn10 m RX.gl.mJ hm5 d e hd he (by rw [← (RX.cp e d he10 hd).kn]; exact hk)
set_option maxHeartbeats 1000000 in
theorem ca_clashes (hst : l.stackTraces = false) (hd0 : Hd A ad Ks) (hL : LV gm Ks) (hW : LW gm Ks) (hG2 : GM2 gm) (hI : LInv I gm c) (hc : c < 512) (x : Int32) : CAS l D tc dz ad Ks gm I c yL_clashes cL_clashes 4 [(0, 9, 12, 13)] yX7_clashes cX7_clashes 5 [.int x] := by
  obtain ⟨V, acts, z', L, n, m, t, ac, mcs, hLI⟩ := id hI
  have R := hLI.1
  have hB := li_bk hLI
  have hG := hG2.ok
  have hn := R.gl.nJ
  have hn10 := R.gl.n10
  have hm := R.gl.mJ
  have hm5 : m ≤ 1000 := Nat.le_trans R.mb (by decide)
  have hS := hLI.2.2.2.1
  have hz5 := hLI.2.1.1
  have hz6 : z' < 512 := Nat.lt_of_le_of_lt hLI.2.2.2.2.2.2.2.1 hc
  rcases dev_split x with h0 | ⟨d, hd, rfl⟩
  · skip
    exact cas_x hI (k := 1) (by decide) (w_clashes_1 I hL (lv := 9) (by decide) x (gox_of_mx hd0 hL hW hG2 (x_X6_clashes_1 I hst hL hG n mcs hB x h0))) (fun ad1 Ks1 hL1 => ⟨2, nI 0, by decide, m_X7_clashes_1 I hL1 x h0⟩)
  · refine cas_q hI _ (w_clashes_0 I hL (lv := 9) (by decide) (nI d) (go_of_mi hd0 hL hW hG2 (m_X6_clashes I hL hG n mcs hB d hd))) (fun X hX ad1 Ks1 hL1 => ⟨4, by decide, ?_⟩)
    have RX := rel_30 R hX
    rw [rl_cln (rel_0 RX) hd n hn10]
    exact m_X7_clashes_0 X hL1 n RX.gl.nJ hn10 m RX.gl.mJ hm5 d hd
set_option maxHeartbeats 1000000 in
theorem ca_valueAnew (hst : l.stackTraces = false) (hd0 : Hd A ad Ks) (hL : LV gm Ks) (hW : LW gm Ks) (hG2 : GM2 gm) (hI : LInv I gm c) (hc : c < 512) (x y z w : Int32) : CAS l D tc dz ad Ks gm I c yL_valueAnew cL_valueAnew 7 [(0, 14, 17, 13)] yX7_valueAnew cX7_valueAnew 5 [.int x, .int y, .int z, .int w] := by
  obtain ⟨V, acts, z', L, n, m, t, ac, mcs, hLI⟩ := id hI
  have R := hLI.1
  have hB := li_bk hLI
  have hG := hG2.ok
  have hn := R.gl.nJ
  have hn10 := R.gl.n10
  have hm := R.gl.mJ
  have hm5 : m ≤ 1000 := Nat.le_trans R.mb (by decide)
  have hS := hLI.2.2.2.1
  have hz5 := hLI.2.1.1
  have hz6 : z' < 512 := Nat.lt_of_le_of_lt hLI.2.2.2.2.2.2.2.1 hc
  have hV := hLI.2.2.2.2.1
  have e1 : (V z').2.1 = n := by rw [hV]
  have e2 : (V z').2.2 = mcs := by rw [hV]
  have hS0 : SB 0 0 (V z').2.2 I I (V z').1 := by rw [e2]; exact hS
  have hnd : need (fun e => (gm 1 e).1) (V z').2.2 10 ≤ 512 := by
    have a := need_le (g := fun e => (gm 1 e).1) (m := (V z').2.2) 10
    rw [e2] at a ⊢
    have b := hLI.2.2.2.2.2.2.2.2.2.2.2
    omega
  have cv : ∀ u : WS, NAw tc dz V I gm ad Ks z' u → OutW tc dz ad Ks (fun gm1 I0 => ∃ ad1 Ks1, RS V (zerM I) gm ad Ks z' ad1 Ks1 gm1 I0) u := fun u q => by
    obtain ⟨gm1, I1, hRS, hs⟩ := q
    exact ⟨gm1, I1, ⟨_, _, hRS⟩, hRS.2.2.2.2.1, hRS.2.2.2.2.2.1, hRS.2.1, hRS.2.2.2.2.2.2, hs⟩
  have of1 : ∀ gm1 I0 ad1 Ks1, RS V (zerM I) gm ad Ks z' ad1 Ks1 gm1 I0 → ∀ k : KN, k.2.1 ≠ 1 → I0 k = I k := fun gm1 I0 ad1 Ks1 r k hk => (r.1.2 k (Or.inl hk)).trans (zer_ne (fun q => hk q.1))
  have rm : ∀ gm1 I0 ad1 Ks1, RS V (zerM I) gm ad Ks z' ad1 Ks1 gm1 I0 → SG gm1 = SG gm + need (fun e => (gm 1 e).1) (V z').2.2 10 := fun gm1 I0 ad1 Ks1 r => by
    have a := sum_need (g := fun e => (gm 1 e).1) (m := (V z').2.2) (g2 := fun e => (gm1 1 e).1) (k := 10) (fun j _ => r.2.2.2.1 j)
    have b : sumN (fun e => (gm1 0 e).1) 10 = sumN (fun e => (gm 0 e).1) 10 := congrArg (fun q => sumN q 10) (funext fun e => by rw [r.2.2.1 0 e (by decide)])
    unfold SG
    omega
  rcases val_split R x y z w with ⟨h0, h1⟩ | ⟨d, e, f, j, hd, he, hf, hj31, rfl, rfl, rfl, rfl, hk, hj⟩
  · refine ⟨1, _, _, _, w_valueAnew_1 I hL (lv := 11) (by decide) x y z w (gx_imp (x_X6_valueAnew_1 I hst hL hW hG2 V acts z' (Nat.le_of_lt hz6) hLI.2.2.1 hLI.2.1 hS0 x y z w (by rw [e1]; exact h0)) cv), fun gm1 I0 hΦ ad1 Ks1 hL1 => ?_, fun gm1 I0 hΦ => ?_, by omega, by omega⟩
    · obtain ⟨ad2, Ks2, r⟩ := hΦ
      have o := of1 _ _ _ _ r
      have RX := rel_30 R (X := I0) (fun k _ _ => o _ (by show (0 : Nat) ≠ 1; decide))
      refine ⟨4, nI 0, thM I0 1, by decide, ?_, th_4, fun q => absurd q (by decide), li_same (step_anew hLI r) (Nat.le_succ c) (fun k hk => th_see (by omega)) (fun j hj => th_30 (by omega))⟩
      rcases h1 with h1 | ⟨d, e, f, j, hd, he, hf, hj31, rfl, rfl, rfl, rfl, hk, hj⟩
      · exact m_X7_valueAnew_1 I0 hL1 n RX.gl.nJ hn10 x y z w (by rw [rl_ckn RX]; exact h1)
      · have he10 : e < 10 := Nat.lt_of_lt_of_le he hn10
        exact m_X7_valueAnew_2 I0 hL1 n RX.gl.nJ hn10 d e f j hd he hf hj31 (by rw [← (RX.cp e d he10 hd).kn]; exact hk) (val_out RX hd he10 hf hj)
    · obtain ⟨ad2, Ks2, r⟩ := hΦ
      have := rm _ _ _ _ r
      constructor <;> omega
  · have he10 : e < 10 := Nat.lt_of_lt_of_le he hn10
    refine ⟨0, _, _, _, w_valueAnew_0 I hL (lv := 11) (by decide) (nI d) (nI e) (nI f) (nI j) (Ψ := fun v gm1 I0 => v = vFrom (I (10, 0, e, d)) (I (11, 0, e, d)) f 6 0 j ∧ ∃ ad1 Ks1, RS V (zerM I) gm ad Ks z' ad1 Ks1 gm1 I0) (gi_imp (m_X6_valueAnew I hL hW hG2 V acts z' (Nat.le_of_lt hz6) hLI.2.2.1 hLI.2.1 hS0 d e f hd (by rw [e1]; exact he) hf hk j hj) (fun r u q => (cv u q.2).imp (fun _ _ w => ⟨q.1, w⟩))), fun gm1 X hΦ ad1 Ks1 hL1 => ?_, fun gm1 X hΦ => ?_, by omega, by omega⟩
    · obtain ⟨v, I0, ⟨rfl, ad2, Ks2, r⟩, hX⟩ := hΦ
      have o := of1 _ _ _ _ r
      have hX2 : ∀ k : KN, k.1 < 50 → X k = I0 k := fun k hk9 => by rw [hX]; exact sset_ne _ _ (fun q => by rw [q] at hk9; exact absurd hk9 (by decide))
      have RX := rel_30 R (X := X) (fun k _ h2 => (hX2 _ (by show k < 50; omega)).trans (o _ (by show (0 : Nat) ≠ 1; decide)))
      obtain ⟨v1, v2⟩ := val_ok RX hd he10 hf hj
      refine ⟨4, _, thM X 0, by decide, m_X7_valueAnew_0 X hL1 n RX.gl.nJ hn10 d e f j hd he hf hj31 (by rw [← (RX.cp e d he10 hd).kn]; exact hk) v1, th_4, fun _ => ?_, ?_⟩
      · have e50 : X (50, 0, 0, 0) 0 = vFrom (I (10, 0, e, d)) (I (11, 0, e, d)) f 6 0 j := by rw [hX, sset_eq, ud_eq]
        rw [th_see (by decide), e50, v2]
      · exact li_same (step_anew hLI r) (Nat.le_succ c) (fun k hk => (th_see (by omega)).trans (hX2 k (by omega))) (fun j hj => by rw [th_30 (by omega), hX2 _ (by decide)])
    · obtain ⟨v, I0, ⟨rfl, ad2, Ks2, r⟩, -⟩ := hΦ
      have := rm _ _ _ _ r
      constructor <;> omega
set_option maxHeartbeats 1000000 in
theorem ca_agreement (hst : l.stackTraces = false) (hd0 : Hd A ad Ks) (hL : LV gm Ks) (hW : LW gm Ks) (hG2 : GM2 gm) (hI : LInv I gm c) (hc : c < 512) (x y : Int32) : CAF l D tc dz ad Ks gm I c yL_agreement cL_agreement 5 [(0, 10, 13, 13)] yX7_agreement cX7_agreement 8 [.int x, .int y] := by
  obtain ⟨V, acts, z', L, n, m, t, ac, mcs, hLI⟩ := id hI
  have R := hLI.1
  have hB := li_bk hLI
  have hG := hG2.ok
  have hn := R.gl.nJ
  have hn10 := R.gl.n10
  have hm := R.gl.mJ
  have hm5 : m ≤ 1000 := Nat.le_trans R.mb (by decide)
  have hS := hLI.2.2.2.1
  have hz5 := hLI.2.1.1
  have hz6 : z' < 512 := Nat.lt_of_le_of_lt hLI.2.2.2.2.2.2.2.1 hc
  cases h0 : (isDev x && isDev y) with
  | false =>
    refine ⟨1, 1, 6, _, w_agreement_1 I hL (lv := 9) (by decide) x y (gox_of_mx hd0 hL hW hG2 (x_X6_agreement_1 I hst hL hG n mcs hB x y h0)), fun gm1 I1 hΦ ad1 Ks1 hL1 => ?_, fun gm1 I1 hΦ => ?_, by decide, by decide⟩
    · obtain ⟨rfl, rfl⟩ := hΦ
      exact ⟨2, _, _, by decide, m_X7_agreement_1 I1 hL1 x y h0, th_4, fun q => absurd q (by decide), li_same hI (Nat.le_succ c) (fun k hk => th_see (by omega)) (fun j hj => th_30 (by omega))⟩
    · obtain ⟨rfl, rfl⟩ := hΦ
      exact ⟨Nat.le_refl _, Nat.le_refl _⟩
  | true =>
    rcases dev_split x with q | ⟨d, hd, rfl⟩
    · rw [q] at h0; cases h0
    rcases dev_split y with q | ⟨o, ho, rfl⟩
    · rw [q, Bool.and_false] at h0; cases h0
    have b1 := rl_bsm R hd ho n hn10
    have b2 := rl_bcm R hd ho n hn10
    have m1 := masA_le (I := I) (d := d) (o := o) (m := m) n
    have m2 := magA_le (I := I) (d := d) (o := o) (m := m) n
    have hok := ag_all (bsmN I 0 d o mcs n) (by rw [b1]; omega) (magA I d o m n) (by omega)
    refine ⟨0, 0, 0, _, w_agreement_0 I hL (lv := 9) (by decide) (nI d) (nI o) hW hG2 (m_X6_agreement I hL hG n mcs hB d o hd ho (magA I d o m n) b2 (by omega)) hok.1, fun gm1 X hΦ ad1 Ks1 hL1 => ?_, fun gm1 X hΦ => ?_, by decide, by decide⟩
    · obtain ⟨rfl, hX⟩ := hΦ
      have hX2 : ∀ k : KN, k.1 < 50 → X k = I k := fun k hk9 => by rw [hX]; exact sset_ne _ _ (fun q => by rw [q] at hk9; exact absurd hk9 (by decide))
      have RX := rel_30 R (X := X) (fun k _ h2 => hX2 _ (by show k < 50; omega))
      have R0 := rel_0 RX
      have c1 := rl_bsm R0 hd ho n hn10
      have c2 := rl_bcm R0 hd ho n hn10
      have m3 := magA_le (I := thM X 0) (d := d) (o := o) (m := m) n
      have c3 : magA (thM X 0) d o m n = magA I d o m n := nI_inj (by omega) (by omega) (c2.symm.trans b2)
      refine ⟨4, _, thM X 0, by decide, m_X7_agreement_0 X hL1 n RX.gl.nJ hn10 m RX.gl.mJ hm5 d o hd ho, th_4, fun _ => ?_, ?_⟩
      · rw [← c1, c3]
        refine ⟨hok.1, hok.2, ?_⟩
        rw [th_see (by decide), hX, sset_eq, ud_eq]
        simp
      · exact li_same hI (Nat.le_succ c) (fun k hk => (th_see (by omega)).trans (hX2 k (by omega))) (fun j hj => by rw [th_30 (by omega), hX2 _ (by decide)])
    · obtain ⟨rfl, -⟩ := hΦ
      exact ⟨Nat.le_succ _, by omega⟩
end CALLS3
