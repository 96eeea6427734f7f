section CALLS2
variable {l : Launch} {D : va_G} {tc : TC} {dz : Nat} {ad : KN → Nat} {Ks : List KN} {gm : GM} {I : Mem} {c : Nat} {A : Nat → Prop}
set_option maxHeartbeats 1000000 in
theorem ca_entry (hst : l.stackTraces = false) (hd0 : Hd A ad Ks) (hL : LV gm Ks) (hW : LW gm Ks) (hG2 : GM2 gm) (hI : LInv I gm c) (hc : c < 512) (x : Int32) : CAS l D tc dz ad Ks gm I c yL_entry cL_entry 4 [(0, 9, 12, 13), (0, 9, 15, 15)] yX7_entry cX7_entry 3 [.int x] := by
  obtain ⟨V, acts, z', L, n, m, t, ac, mcs, hLI⟩ := id hI
  have R := hLI.1
  have hB := li_bk hLI
  have hG := hG2.ok
  have hn := R.gl.nJ
  have hn10 := R.gl.n10
  have hm := R.gl.mJ
  have hm5 : m ≤ 1000 := Nat.le_trans R.mb (by decide)
  have hS := hLI.2.2.2.1
  have hz5 := hLI.2.1.1
  have hz6 : z' < 512 := Nat.lt_of_le_of_lt hLI.2.2.2.2.2.2.2.1 hc
  rcases dev_split x with h0 | ⟨d, hd, rfl⟩
  · skip
    exact cas_x hI (k := 1) (by decide) (w_entry_1 I hL (lv := 9) (by decide) x (gox_of_mx hd0 hL hW hG2 (x_X6_entry_1 I hst hL hG n mcs hB x h0))) (fun ad1 Ks1 hL1 => ⟨2, nI 0, by decide, m_X7_entry_1 I hL1 n hn hn10 x h0⟩)
  · by_cases h10 : n = 10
    · skip
      exact cas_x hI (k := 2) (by decide) (w_entry_2 I hL (lv := 9) (by decide) (nI d) (gox_of_mx hd0 hL hW hG2 (x_X6_entry_2 I hst hL hG n mcs hB d hd h10))) (fun ad1 Ks1 hL1 => ⟨2, nI 0, by decide, m_X7_entry_2 I hL1 n hn hn10 d hd h10⟩)
    · have hn9 : n < 10 := by omega
      refine cas_0 (nI n) _ (w_entry_0 I hL (lv := 9) (by decide) (nI d) (go_of_mi hd0 hL hW hG2 (m_X6_entry I hL hG n mcs hB z' hz5 hz6 d hd hn9))) (fun X hX => ?_)
      have RX := rel_30 R (st_mem ((jw_SB hS).mke d n) hX)
      exact ⟨mEntM X d n, fun ad1 Ks1 hL1 => ⟨2, by decide, m_X7_entry_0 X hL1 n RX.gl.nJ hn10 d hd hn9⟩, mEnt_4, mEnt_hi (by decide), step_entry hLI hd hn9 hX⟩
set_option maxHeartbeats 1000000 in
theorem ca_tell (hst : l.stackTraces = false) (hd0 : Hd A ad Ks) (hL : LV gm Ks) (hW : LW gm Ks) (hG2 : GM2 gm) (hI : LInv I gm c) (hc : c < 512) (x y z w : Int32) : CAS l D tc dz ad Ks gm I c yL_tell cL_tell 7 [(0, 14, 17, 13), (0, 14, 21, 21), (0, 14, 25, 15)] yX7_tell cX7_tell 8 [.int x, .int y, .int z, .int w] := by
  obtain ⟨V, acts, z', L, n, m, t, ac, mcs, hLI⟩ := id hI
  have R := hLI.1
  have hB := li_bk hLI
  have hG := hG2.ok
  have hn := R.gl.nJ
  have hn10 := R.gl.n10
  have hm := R.gl.mJ
  have hm5 : m ≤ 1000 := Nat.le_trans R.mb (by decide)
  have hS := hLI.2.2.2.1
  have hz5 := hLI.2.1.1
  have hz6 : z' < 512 := Nat.lt_of_le_of_lt hLI.2.2.2.2.2.2.2.1 hc
  cases h0 : (ckn I 0 n x y && isFld z) with
  | false =>
    exact cas_x hI (k := 1) (by decide) (w_tell_1 I hL (lv := 9) (by decide) x y z w (gox_of_mx hd0 hL hW hG2 (x_X6_tell_1 I hst hL hG n mcs hB x y z w h0))) (fun ad1 Ks1 hL1 => ⟨3, nI 0, by decide, m_X7_tell_1 I hL1 n hn hn10 x y z w (by rw [rl_ckn R]; exact h0)⟩)
  | true =>
    rcases ck_split (I := I) hn10 x y with q | ⟨d, e, hd, he, rfl, rfl, hk⟩
    · rw [q] at h0; cases h0
    rcases fld_split z with q | ⟨f, hf, rfl⟩
    · rw [q, Bool.and_false] at h0; cases h0
    have he10 : e < 10 := Nat.lt_of_lt_of_le he hn10
    have hkJ : nz (I (34, 0, 0, 0) (10 * d + e)) = true := by rw [← (R.cp e d he10 hd).kn]; exact hk
    cases hw : inR w (-1) (nI 999) with
    | false =>
      exact cas_x hI (k := 2) (by decide) (w_tell_2 I hL (lv := 9) (by decide) (nI d) (nI e) (nI f) w (gox_of_mx hd0 hL hW hG2 (x_X6_tell_2 I hst hL hG n mcs hB d e f hd he hf hk w hw))) (fun ad1 Ks1 hL1 => ⟨3, nI 0, by decide, m_X7_tell_2 I hL1 n hn hn10 d e f hd he hf hkJ w hw⟩)
    | true =>
      cases hmay : bit (ff I 0 e d) f with
      | false =>
        exact cas_x hI (k := 3) (by decide) (w_tell_3 I hL (lv := 9) (by decide) (nI d) (nI e) (nI f) w (gox_of_mx hd0 hL hW hG2 (x_X6_tell_3 I hst hL hG n mcs hB d e f hd he hf hk w hw hmay))) (fun ad1 Ks1 hL1 => ⟨3, nI 0, by decide, m_X7_tell_3 I hL1 n hn hn10 d e f hd he hf hkJ w hw (by rw [← rl_ff R.gl he10 hd hf]; exact hmay)⟩)
      | true =>
        refine cas_0 _ _ (w_tell_0 I hL (lv := 9) (by decide) (nI d) (nI e) (nI f) w (go_of_mi hd0 hL hW hG2 (m_X6_tell I hL hG n mcs hB z' hz5 hz6 d e f hd he hf hk w hw hmay))) (fun X hX => ?_)
        have RX := rel_30 R (st_mem ((jw_SB hS).tll e f d w) hX)
        refine ⟨mtlM X d e f w, fun ad1 Ks1 hL1 => ⟨3, by decide, ?_⟩, mtl_4, mtl_hi (by decide), step_tell hLI hc hd he hf (inR_neg hw) hX⟩
        rw [rl_cnF (RX.cp e d he10 hd) hf]
        exact m_X7_tell_0 X hL1 n RX.gl.nJ hn10 d e f hd he hf (by rw [← (RX.cp e d he10 hd).kn]; exact hk) w hw (by rw [← rl_ff RX.gl he10 hd hf]; exact hmay)
set_option maxHeartbeats 1000000 in
theorem ca_delete (hst : l.stackTraces = false) (hd0 : Hd A ad Ks) (hL : LV gm Ks) (hW : LW gm Ks) (hG2 : GM2 gm) (hI : LInv I gm c) (hc : c < 512) (x y : Int32) : CAS l D tc dz ad Ks gm I c yL_delete cL_delete 5 [(0, 10, 13, 13), (0, 10, 17, 15)] yX7_delete cX7_delete 5 [.int x, .int y] := by
  obtain ⟨V, acts, z', L, n, m, t, ac, mcs, hLI⟩ := id hI
  have R := hLI.1
  have hB := li_bk hLI
  have hG := hG2.ok
  have hn := R.gl.nJ
  have hn10 := R.gl.n10
  have hm := R.gl.mJ
  have hm5 : m ≤ 1000 := Nat.le_trans R.mb (by decide)
  have hS := hLI.2.2.2.1
  have hz5 := hLI.2.1.1
  have hz6 : z' < 512 := Nat.lt_of_le_of_lt hLI.2.2.2.2.2.2.2.1 hc
  cases h0 : ckn I 0 n x y with
  | false =>
    exact cas_x hI (k := 1) (by decide) (w_delete_1 I hL (lv := 9) (by decide) x y (gox_of_mx hd0 hL hW hG2 (x_X6_delete_1 I hst hL hG n mcs hB x y h0))) (fun ad1 Ks1 hL1 => ⟨3, nI 0, by decide, m_X7_delete_1 I hL1 n hn hn10 x y (by rw [rl_ckn R]; exact h0)⟩)
  | true =>
    rcases ck_split (I := I) hn10 x y with q | ⟨d, e, hd, he, rfl, rfl, hk⟩
    · rw [q] at h0; cases h0
    have he10 : e < 10 := Nat.lt_of_lt_of_le he hn10
    have hkJ : nz (I (34, 0, 0, 0) (10 * d + e)) = true := by rw [← (R.cp e d he10 hd).kn]; exact hk
    by_cases how : I (4, 0, e, 0) 0 = nI (d / 2)
    · by_cases hs : sto I 0 e d (mcs e) = 1
      · have g0 := hLI.2.2.2.2.2.1
        have g1 := hLI.2.2.2.2.2.2.1
        have hsum := hLI.2.2.2.2.2.2.2.2.2.2.2
        refine ⟨0, _, _, _, w_delete_0 I hL (lv := 10) (by decide) (nI d) (nI e) (Ψ := fun v gm1 I0 => v = nI (cvA (I (10, 0, e, d))) ∧ (∀ b2 e2, ¬ (b2 = 0 ∧ e2 = e) → gm1 b2 e2 = gm b2 e2) ∧ (gm1 0 e).1 = max (gm 0 e).1 (mcs e + 1) ∧ ∃ v7, I0 = sset (addM (nxtM (jwM I z' (nI 2) (nI d) (nI e) (nI 0) (nI 0)) 0 d) 0 e d (mcs e) (I (1, 0, 0, 0) 0)) (7, 0, e, 0) v7) (gi_imp (m_X6_delete I hL hW hG2 n mcs hB (fun e2 _ => li_mc hLI (Nat.le_of_lt hc) e2) z' hz5 hz6 d e hd he hk how hs) (fun r u q => ?_)), fun gm1 X hΦ ad1 Ks1 hL1 => ?_, fun gm1 X hΦ => ?_, ?_, ?_⟩
        · obtain ⟨q0, gm1, v7, q1, q2, q3, q4, q5, q6, q7⟩ := q
          exact ⟨gm1, _, ⟨q0, q1, q2, v7, rfl⟩, q5, q6, q3, q7, q4⟩
        · obtain ⟨v, I0, ⟨rfl, q1, q2, v7, q3⟩, hX0⟩ := hΦ
          have hX : ∀ k : KN, k.1 < 50 → X k = sset (addM (nxtM (jwM I z' (nI 2) (nI d) (nI e) (nI 0) (nI 0)) 0 d) 0 e d (mcs e) (I (1, 0, 0, 0) 0)) (7, 0, e, 0) v7 k := fun k hk9 => by
            rw [hX0, ← q3]; exact sset_ne _ _ (fun q => by rw [q] at hk9; exact absurd hk9 (by decide))
          have RX := rel_30 R (st_mem ((((jw_SB (z := z') (a := nI 2) (b := nI d) (c := nI e) (d := nI 0) (e := nI 0) hS).nxt d).add e d (I (1, 0, 0, 0) 0)).lst e v7) hX)
          refine ⟨4, _, mdlM X d e m, by decide, m_X7_delete_0 X hL1 n RX.gl.nJ hn10 m RX.gl.mJ hm5 d e hd he (by rw [← (RX.cp e d he10 hd).kn]; exact hk) (by rw [← RX.gl.ow e he10]; exact how) (by rw [rl_thr RX he10 hd, hs]; rfl), mdl_4, fun _ => ?_, ?_⟩
          · have e50 : X (50, 0, 0, 0) 0 = nI (cvA (I (10, 0, e, d))) := by rw [hX0, sset_eq, ud_eq]
            rw [mdl_hi (by decide), e50, rl_cnA (RX.cp e d he10 hd)]
          · refine step_delete hLI hc hd he (v7 := v7) (fun e2 => ?_) (fun e2 => by rw [q1 1 e2 (fun q => absurd q.1 (by decide))]) hX
            by_cases q : e2 = e
            · subst q; rw [q2, mup_eq, g0]; omega
            · rw [q1 0 e2 (fun w => q w.2), mup_ne q, g0]
        · obtain ⟨v, I0, ⟨rfl, q1, q2, -⟩, -⟩ := hΦ
          have h1 := sum_up (f := fun e => (gm 0 e).1) (g := fun e => (gm1 0 e).1) (e := e) (by show (gm 0 e).1 + 1 ≤ (gm1 0 e).1; rw [q2, g0]; omega) (k := 10) he10 (fun j _ => by
            by_cases q : j = e
            · subst q; show (gm 0 j).1 ≤ (gm1 0 j).1; rw [q2]; omega
            · show (gm 0 j).1 ≤ (gm1 0 j).1; rw [q1 0 j (fun w => q w.2)]; exact Nat.le_refl _)
          have h2 := sum_le (f := fun e => (gm 1 e).1) (g := fun e => (gm1 1 e).1) (k := 10) (fun j _ => by show (gm 1 j).1 ≤ (gm1 1 j).1; rw [q1 1 j (fun w => absurd w.1 (by decide))]; exact Nat.le_refl _)
          have h3 := (hG2 0 e).2.2
          unfold SG
          constructor
          · split <;> omega
          · split <;> omega
        · split <;> decide
        · have h3 := (hG2 0 e).2.2
          split <;> omega
      · skip
        exact cas_x hI (k := 2) (by decide) (w_delete_2 I hL (lv := 9) (by decide) (nI d) (nI e) (gox_of_mx hd0 hL hW hG2 (x_X6_delete_2b I hst hL hG n mcs hB d e hd he hk how hs))) (fun ad1 Ks1 hL1 => ⟨4, nI 0, by decide, m_X7_delete_2 I hL1 n hn hn10 m hm hm5 d e hd he hkJ (by rw [rl_thr R he10 hd, decide_eq_false hs, Bool.and_false])⟩)
    · skip
      exact cas_x hI (k := 2) (by decide) (w_delete_2 I hL (lv := 9) (by decide) (nI d) (nI e) (gox_of_mx hd0 hL hW hG2 (x_X6_delete_2a I hst hL hG n mcs hB d e hd he hk how))) (fun ad1 Ks1 hL1 => ⟨4, nI 0, by decide, m_X7_delete_2 I hL1 n hn hn10 m hm hm5 d e hd he hkJ (by rw [← R.gl.ow e he10, decide_eq_false how, Bool.false_and])⟩)
set_option maxHeartbeats 1000000 in
theorem ca_share (hst : l.stackTraces = false) (hd0 : Hd A ad Ks) (hL : LV gm Ks) (hW : LW gm Ks) (hG2 : GM2 gm) (hI : LInv I gm c) (hc : c < 512) (x y z w : Int32) : CAS l D tc dz ad Ks gm I c yL_share cL_share 7 [(0, 14, 17, 13), (0, 14, 21, 21), (0, 14, 25, 15)] yX7_share cX7_share 10 [.int x, .int y, .int z, .int w] := by
  obtain ⟨V, acts, z', L, n, m, t, ac, mcs, hLI⟩ := id hI
  have R := hLI.1
  have hB := li_bk hLI
  have hG := hG2.ok
  have hn := R.gl.nJ
  have hn10 := R.gl.n10
  have hm := R.gl.mJ
  have hm5 : m ≤ 1000 := Nat.le_trans R.mb (by decide)
  have hS := hLI.2.2.2.1
  have hz5 := hLI.2.1.1
  have hz6 : z' < 512 := Nat.lt_of_le_of_lt hLI.2.2.2.2.2.2.2.1 hc
  cases h0 : (ckn I 0 n x y && isPer z) with
  | false =>
    exact cas_x hI (k := 1) (by decide) (w_share_1 I hL (lv := 9) (by decide) x y z w (gox_of_mx hd0 hL hW hG2 (x_X6_share_1 I hst hL hG n mcs hB x y z w h0))) (fun ad1 Ks1 hL1 => ⟨3, nI 0, by decide, m_X7_share_1 I hL1 n hn hn10 x y z w (by rw [rl_ckn R]; exact h0)⟩)
  | true =>
    rcases ck_split (I := I) hn10 x y with q | ⟨d, e, hd, he, rfl, rfl, hk⟩
    · rw [q] at h0; cases h0
    rcases per_split z with q | ⟨p, hp, rfl⟩
    · rw [q, Bool.and_false] at h0; cases h0
    have he10 : e < 10 := Nat.lt_of_lt_of_le he hn10
    have hkJ : nz (I (34, 0, 0, 0) (10 * d + e)) = true := by rw [← (R.cp e d he10 hd).kn]; exact hk
    have hoJ := R.gl.ow e he10
    cases hw : inR w (nI 0) (nI 15) with
    | false =>
      exact cas_x hI (k := 2) (by decide) (w_share_2 I hL (lv := 9) (by decide) (nI d) (nI e) (nI p) w (gox_of_mx hd0 hL hW hG2 (x_X6_share_2 I hst hL hG n mcs hB d e p hd he hp hk w hw))) (fun ad1 Ks1 hL1 => ⟨3, nI 0, by decide, m_X7_share_2 I hL1 n hn hn10 d e p hd he hp hkJ w hw⟩)
    | true =>
      by_cases how : I (4, 0, e, 0) 0 = nI (d / 2)
      · by_cases hne : nI p = I (4, 0, e, 0) 0
        · skip
          exact cas_x hI (k := 3) (by decide) (w_share_3 I hL (lv := 9) (by decide) (nI d) (nI e) (nI p) w (gox_of_mx hd0 hL hW hG2 (x_X6_share_3b I hst hL hG n mcs hB d e p hd he hp hk w hw how hne))) (fun ad1 Ks1 hL1 => ⟨3, nI 0, by decide, m_X7_share_3 I hL1 n hn hn10 d e p hd he hp hkJ w hw (by rw [← hoJ, decide_eq_true hne, Bool.or_true])⟩)
        · obtain ⟨j, -, hj, rfl⟩ := inR_of (by decide) hw (by decide)
          refine cas_0 _ _ (w_share_0 I hL (lv := 9) (by decide) (nI d) (nI e) (nI p) (nI j) (go_of_mi hd0 hL hW hG2 (m_X6_share I hL hG n mcs hB z' hz5 hz6 d e p hd he hp hk (nI j) hw how hne))) (fun X hX => ?_)
          have RX := rel_30 R (st_mem ((jw_SB hS).shr e p (nI j) 6) hX)
          refine ⟨mshM X e p (nI j), fun ad1 Ks1 hL1 => ⟨3, by decide, ?_⟩, msh_4, msh_hi (by decide), step_share (d := d) hLI he hp (show j < 16 by omega) rfl hX⟩
          rw [RX.gl.sh e p he10 hp]
          exact m_X7_share_0 X hL1 n RX.gl.nJ hn10 d e p hd he hp (by rw [← (RX.cp e d he10 hd).kn]; exact hk) (nI j) hw (by rw [← RX.gl.ow e he10]; exact how) (by rw [← RX.gl.ow e he10]; exact hne)
      · skip
        exact cas_x hI (k := 3) (by decide) (w_share_3 I hL (lv := 9) (by decide) (nI d) (nI e) (nI p) w (gox_of_mx hd0 hL hW hG2 (x_X6_share_3a I hst hL hG n mcs hB d e p hd he hp hk w hw how))) (fun ad1 Ks1 hL1 => ⟨3, nI 0, by decide, m_X7_share_3 I hL1 n hn hn10 d e p hd he hp hkJ w hw (by rw [← hoJ, decide_eq_false how]; rfl)⟩)
set_option maxHeartbeats 1000000 in
theorem ca_merge (hst : l.stackTraces = false) (hd0 : Hd A ad Ks) (hL : LV gm Ks) (hW : LW gm Ks) (hG2 : GM2 gm) (hI : LInv I gm c) (hc : c < 512) (x y : Int32) : CAS l D tc dz ad Ks gm I c yL_merge cL_merge 5 [(0, 10, 13, 13), (0, 10, 17, 21)] yX7_merge cX7_merge 8 [.int x, .int y] := by
  obtain ⟨V, acts, z', L, n, m, t, ac, mcs, hLI⟩ := id hI
  have R := hLI.1
  have hB := li_bk hLI
  have hG := hG2.ok
  have hn := R.gl.nJ
  have hn10 := R.gl.n10
  have hm := R.gl.mJ
  have hm5 : m ≤ 1000 := Nat.le_trans R.mb (by decide)
  have hS := hLI.2.2.2.1
  have hz5 := hLI.2.1.1
  have hz6 : z' < 512 := Nat.lt_of_le_of_lt hLI.2.2.2.2.2.2.2.1 hc
  cases h0 : (isDev x && isDev y) with
  | false =>
    exact cas_x hI (k := 1) (by decide) (w_merge_1 I hL (lv := 9) (by decide) x y (gox_of_mx hd0 hL hW hG2 (x_X6_merge_1 I hst hL hG n mcs hB x y h0))) (fun ad1 Ks1 hL1 => ⟨2, nI 0, by decide, m_X7_merge_1 I hL1 x y h0⟩)
  | true =>
    rcases dev_split x with q | ⟨d, hd, rfl⟩
    · rw [q] at h0; cases h0
    rcases dev_split y with q | ⟨o, ho, rfl⟩
    · rw [q, Bool.and_false] at h0; cases h0
    by_cases hne : d = o
    · skip
      exact cas_x hI (k := 2) (by decide) (w_merge_2 I hL (lv := 9) (by decide) (nI d) (nI o) (gox_of_mx hd0 hL hW hG2 (x_X6_merge_2 I hst hL hG n mcs hB d o hd ho hne))) (fun ad1 Ks1 hL1 => ⟨2, nI 0, by decide, m_X7_merge_2 I hL1 d o hd ho hne⟩)
    · refine cas_0 _ _ (w_merge_0 I hL (lv := 9) (by decide) (nI d) (nI o) (go_of_mi hd0 hL hW hG2 (m_X6_merge I hL hG n mcs hB z' hz5 hz6 d o hd ho hne))) (fun X hX => ?_)
      have RX := rel_30 R (st_mem ((jw_SB hS).mgd d o n) hX)
      obtain ⟨s1, s2⟩ := step_merge hLI hd ho hne hX
      refine ⟨mmM X d o m n, fun ad1 Ks1 hL1 => ⟨3, by decide, ?_⟩, mm_4 n, mm_hi (by decide) n, s1⟩
      rw [← s2, Int32.add_comm]
      exact m_X7_merge_0 X hL1 n RX.gl.nJ hn10 m RX.gl.mJ hm5 d o hd ho hne
set_option maxHeartbeats 1000000 in
theorem ca_pass (hst : l.stackTraces = false) (hd0 : Hd A ad Ks) (hL : LV gm Ks) (hW : LW gm Ks) (hG2 : GM2 gm) (hI : LInv I gm c) (hc : c < 512) (x : Int32) : CAS l D tc dz ad Ks gm I c yL_pass cL_pass 4 [(0, 9, 12, 21)] yX7_pass cX7_pass 5 [.int x] := by
  obtain ⟨V, acts, z', L, n, m, t, ac, mcs, hLI⟩ := id hI
  have R := hLI.1
  have hB := li_bk hLI
  have hG := hG2.ok
  have hn := R.gl.nJ
  have hn10 := R.gl.n10
  have hm := R.gl.mJ
  have hm5 : m ≤ 1000 := Nat.le_trans R.mb (by decide)
  have hS := hLI.2.2.2.1
  have hz5 := hLI.2.1.1
  have hz6 : z' < 512 := Nat.lt_of_le_of_lt hLI.2.2.2.2.2.2.2.1 hc
  cases hw : inR x (nI 1) (nI 24) with
  | false =>
    exact cas_x hI (k := 1) (by decide) (w_pass_1 I hL (lv := 9) (by decide) x (gox_of_mx hd0 hL hW hG2 (x_X6_pass_1 I hst hL hG n mcs hB x hw))) (fun ad1 Ks1 hL1 => ⟨1, nI 0, by decide, m_X7_pass_1 I hL1 x hw⟩)
  | true =>
    obtain ⟨j, -, hj, rfl⟩ := inR_of (by decide) hw (by decide)
    refine cas_0 _ _ (w_pass_0 I hL (lv := 9) (by decide) (nI j) (go_of_mi hd0 hL hW hG2 (m_X6_pass I hL hG n mcs hB z' hz5 hz6 (nI j) hw))) (fun X hX => ?_)
    have RX := rel_30 R (st_mem ((jw_SB hS).pas (nI j) n) hX)
    obtain ⟨s1, s2⟩ := step_pass hLI hc hj hX
    refine ⟨mpD X (nI j) n m 6, fun ad1 Ks1 hL1 => ⟨4, by decide, ?_⟩, mpD_4 6, mpD_hi (by decide) 6, s1⟩
    rw [s2]
    exact m_X7_pass_0 X hL1 n RX.gl.nJ hn10 m RX.gl.mJ hm5 (nI j) hw
end CALLS2
