/-! the law's loop -/
theorem and15 (x : Int32) : ∃ j, j < 16 ∧ x &&& nI 15 = nI j := by
  refine ⟨(x.toBitVec &&& 15#32).toNat, ?_, ?_⟩
  · rw [BitVec.toNat_and]
    exact Nat.lt_of_le_of_lt Nat.and_le_right (by decide)
  · apply Int32.toBitVec_inj.mp
    show x.toBitVec &&& 15#32 = _
    simp [nI]
theorem sub5 {L : Nat} (h : L < 5) : (nI L - nI 5).toInt < 0 := by
  rcases (by omega : L = 0 ∨ L = 1 ∨ L = 2 ∨ L = 3 ∨ L = 4) with rfl | rfl | rfl | rfl | rfl
  all_goals decide
theorem loop_in {L n : Nat} (hL : L ≤ 2560) (hn : n ≤ 512) (q : ¬ nI L - nI 5 < nI (5 * n)) : 5 * n + 5 ≤ L := by
  by_cases h : L < 5
  · refine absurd (Int32.lt_iff_toInt_lt.mpr ?_) q
    have := sub5 h
    rw [i_nI (show 5 * n < 2 ^ 31 by omega)]
    omega
  · rw [nI_sub (by omega), nI_ltI (by omega) (by omega)] at q
    omega
section LAWLOOP
variable {p : Program} {l : Launch} {e : Env} {s : State} {m : MethodId} {below : List Frame} {meth : Method} {c : Code} {Q : State → Prop}
variable {D : va_G} {tc : TC} {dz b L : Nat} {xs : Nat → Int32}
set_option maxHeartbeats 4000000 in
set_option maxRecDepth 100000 in
theorem law_loop (Z : LX p s m meth c D tc dz b L xs) (hst : l.stackTraces = false)
    (hend : ∀ (H : Heap) (locs : List Loc) (ls : Array Slot), (∀ q ∈ locs, s.heap.size ≤ q.base) → W p l e room_1 s m #[Value.ref b] below meth c H locs 601024 7293034 Q (F0 m 1193 ls [.int 1])) :
    ∀ (k n : Nat), L + 1 ≤ 5 * n + k → n ≤ 512 → ∀ (ad : KN → Nat) (Ks : List KN) (gm : GM) (I : Mem) (H : Heap) (locs : List Loc) (ls : Array Slot), LInv I gm n → LV gm Ks → LW gm Ks → GM2 gm → Sx D (fun q => s.heap.size ≤ q) ad Ks (lay tc ad gm dz I) s H locs → lv_has ls 8 (lawL ad b n) → W p l e room_1 s m #[Value.ref b] below meth c H locs (948 + 5 * SG gm + n) (53118 + 2111 * SG gm + 6 * n) Q (F0 m 28 ls []) := by
  intro k
  induction k using Nat.strongRecOn with
  | _ k ih =>
  intro n hk hn ad Ks gm I H locs ls hI hL hW hG2 h hl
  have hSG := li_SG hI
  obtain ⟨X, -, -, hL25⟩ := id Z
  obtain ⟨hx, hb, hmaxL, hown, hts⟩ := id X.1
  refine lv_iload hx hb dL_law_28 (lv_at hl 0 rfl) ?_
  refine lv_aload_n hx hb dL_law_30 rfl (lv_at hl 5 rfl) ?_
  refine l_slen Z h dL_law_31 ?_
  refine lv_iconst (v := nI 5) hx hb dL_law_32 (by decide) ?_
  refine lv_isub hx hb dL_law_33 ?_
  refine lv_icmp_gt (tgt := 1192) hx hb dL_law_34 (by decide) (fun _ => ?_) (fun q => ?_)
  · refine lv_iconst (v := 1) hx hb dL_law_1192 (by decide) ?_
    exact W.widen (by omega) (by omega) (hend H locs ls h.2.2.2.2)
  · have hi := loop_in hL25 hn q
    have hc : n < 512 := by omega
    refine lv_aload_n hx hb dL_law_37 rfl (lv_at hl 5 rfl) ?_
    refine lv_iload hx hb dL_law_38 (lv_at hl 0 rfl) ?_
    refine l_sld Z h (j := 5 * n) (by omega) dL_law_40 ?_
    refine lv_bipush (v := nI 15) hx hb dL_law_41 (by decide) ?_
    refine lv_iand hx hb dL_law_43 ?_
    have tail : ∀ (cells slots : Nat) (ad1 : KN → Nat) (Ks1 : List KN) (gm1 : GM) (I2 : Mem) (H1 : Heap) (locs1 : List Loc) (ls1 : Array Slot), cells ≤ 948 + 5 * SG gm1 + (n + 1) → slots ≤ 53118 + 2111 * SG gm1 + 6 * (n + 1) → LV gm1 Ks1 → LW gm1 Ks1 → GM2 gm1 → LInv I2 gm1 (n + 1) → Sx D (fun q => s.heap.size ≤ q) ad1 Ks1 (lay tc ad1 gm1 dz I2) s H1 locs1 → lv_has ls1 8 (lawL ad1 b n) → W p l e room_1 s m #[Value.ref b] below meth c H1 locs1 cells slots Q (F0 m 1186 ls1 []) := by
      intro cells slots ad1 Ks1 gm1 I2 H1 locs1 ls1 h1 h2 hL1 hW1 hG1 hI2 hS1 hl1
      refine W.widen h1 h2 ?_
      refine n_iinc (j := 5 * n) (n := 5) (lv' := lawL ad1 b (n + 1)) hx hb dL_law_1186 hl1 (k := 0) rfl (by decide) (by decide) rfl (fun ls hl => ?_)
      refine lv_goto (tgt := 28) hx hb dL_law_1189 (by decide) ?_
      exact ih (k - 5) (by omega) (n + 1) (by omega) (by omega) ad1 Ks1 gm1 I2 H1 locs1 ls hI2 hL1 hW1 hG1 hS1 hl
    have hcl : 948 + 5 * SG gm + n + 3000 ≤ 601024 ∧ 53118 + 2111 * SG gm + 6 * n + 1100000 ≤ 7293034 := ⟨by omega, by omega⟩
    have kk : ∀ (mc ms : Nat) (ad1 : KN → Nat) (Ks1 : List KN) (gm1 : GM) (I2 : Mem) (H1 : Heap) (locs1 : List Loc) (ls1 : Array Slot), 5 * SG gm + mc ≤ 5 * SG gm1 + 1 → 2111 * SG gm + ms ≤ 2111 * SG gm1 + 6 → LV gm1 Ks1 → LW gm1 Ks1 → GM2 gm1 → LInv I2 gm1 (n + 1) → Sx D (fun q => s.heap.size ≤ q) ad1 Ks1 (lay tc ad1 gm1 dz I2) s H1 locs1 → lv_has ls1 8 (lawL ad1 b n) → W p l e room_1 s m #[Value.ref b] below meth c H1 locs1 (948 + 5 * SG gm + n + mc) (53118 + 2111 * SG gm + 6 * n + ms) Q (F0 m 1186 ls1 []) := fun mc ms ad1 Ks1 gm1 I2 H1 locs1 ls1 h1 h2 hL1 hW1 hG1 hI2 hS1 hl1 => tail _ _ ad1 Ks1 gm1 I2 H1 locs1 ls1 (by omega) (by omega) hL1 hW1 hG1 hI2 hS1 hl1
    obtain ⟨j, hj, ej⟩ := and15 (xs (5 * n))
    rw [ej]
    clear ej
    rcases (by omega : j = 0 ∨ j = 1 ∨ j = 2 ∨ j = 3 ∨ j = 4 ∨ j = 5 ∨ j = 6 ∨ j = 7 ∨ j = 8 ∨ j = 9 ∨ j = 10 ∨ j = 11 ∨ j = 12 ∨ j = 13 ∨ j = 14 ∨ j = 15) with rfl | rfl | rfl | rfl | rfl | rfl | rfl | rfl | rfl | rfl | rfl | rfl | rfl | rfl | rfl | rfl
    · refine lv_tableIn (tgt := 116) (off := 72) hx hb dL_law_44 (by decide) (by decide) (by decide +kernel) (by decide) ?_
      exact lc_entry Z h hl hi hL (ca_entry hst h.2.1 hL hW hG2 hI hc _) hcl kk
    · refine lv_tableIn (tgt := 172) (off := 128) hx hb dL_law_44 (by decide) (by decide) (by decide +kernel) (by decide) ?_
      exact lc_tell Z h hl hi hL (ca_tell hst h.2.1 hL hW hG2 hI hc _ _ _ _) hcl kk
    · refine lv_tableIn (tgt := 264) (off := 220) hx hb dL_law_44 (by decide) (by decide) (by decide +kernel) (by decide) ?_
      exact lc_delete Z h hl hi hL (ca_delete hst h.2.1 hL hW hG2 hI hc _ _) hcl kk
    · refine lv_tableIn (tgt := 332) (off := 288) hx hb dL_law_44 (by decide) (by decide) (by decide +kernel) (by decide) ?_
      exact lc_share Z h hl hi hL (ca_share hst h.2.1 hL hW hG2 hI hc _ _ _ _) hcl kk
    · refine lv_tableIn (tgt := 424) (off := 380) hx hb dL_law_44 (by decide) (by decide) (by decide +kernel) (by decide) ?_
      exact lc_merge Z h hl hi hL (ca_merge hst h.2.1 hL hW hG2 hI hc _ _) hcl kk
    · refine lv_tableIn (tgt := 492) (off := 448) hx hb dL_law_44 (by decide) (by decide) (by decide +kernel) (by decide) ?_
      exact lc_pass Z h hl hi hL (ca_pass hst h.2.1 hL hW hG2 hI hc _) hcl kk
    · refine lv_tableIn (tgt := 548) (off := 504) hx hb dL_law_44 (by decide) (by decide) (by decide +kernel) (by decide) ?_
      exact lc_state Z h hl hi hL (ca_state hst h.2.1 hL hW hG2 hI hc _ _) hcl kk
    · refine lv_tableIn (tgt := 616) (off := 572) hx hb dL_law_44 (by decide) (by decide) (by decide +kernel) (by decide) ?_
      exact lc_value Z h hl hi hL (ca_value hst h.2.1 hL hW hG2 hI hc _ _ _ _) hcl kk
    · refine lv_tableIn (tgt := 708) (off := 664) hx hb dL_law_44 (by decide) (by decide) (by decide +kernel) (by decide) ?_
      exact lc_valueAnew Z h hl hi hL (ca_valueAnew hst h.2.1 hL hW hG2 hI hc _ _ _ _) hcl kk
    · refine lv_tableIn (tgt := 800) (off := 756) hx hb dL_law_44 (by decide) (by decide) (by decide +kernel) (by decide) ?_
      exact lc_values Z h hl hi hL (ca_values hst h.2.1 hL hW hG2 hI hc _ _ _) hcl kk
    · refine lv_tableIn (tgt := 880) (off := 836) hx hb dL_law_44 (by decide) (by decide) (by decide +kernel) (by decide) ?_
      exact lc_seen Z h hl hi hL (ca_seen hst h.2.1 hL hW hG2 hI hc _ _ _ _) hcl kk
    · refine lv_tableIn (tgt := 972) (off := 928) hx hb dL_law_44 (by decide) (by decide) (by decide +kernel) (by decide) ?_
      exact lc_marks Z h hl hi hL (ca_marks hst h.2.1 hL hW hG2 hI hc _ _) hcl kk
    · refine lv_tableIn (tgt := 1040) (off := 996) hx hb dL_law_44 (by decide) (by decide) (by decide +kernel) (by decide) ?_
      exact lc_clashes Z h hl hi hL (ca_clashes hst h.2.1 hL hW hG2 hI hc _) hcl kk
    · refine lv_tableIn (tgt := 1096) (off := 1052) hx hb dL_law_44 (by decide) (by decide) (by decide +kernel) (by decide) ?_
      exact lc_agreement Z h hl hi hL (ca_agreement hst h.2.1 hL hW hG2 hI hc _ _) hcl kk
    · refine lv_tableOut (tgt := 1186) hx hb dL_law_44 (Or.inr (by decide)) (by decide) ?_
      exact tail _ _ ad Ks gm I H locs ls (by omega) (by omega) hL hW hG2 (li_same hI (Nat.le_succ n) (fun _ _ => rfl) (fun _ _ => rfl)) h hl
    · refine lv_tableOut (tgt := 1186) hx hb dL_law_44 (Or.inr (by decide)) (by decide) ?_
      exact tail _ _ ad Ks gm I H locs ls (by omega) (by omega) hL hW hG2 (li_same hI (Nat.le_succ n) (fun _ _ => rfl) (fun _ _ => rfl)) h hl
end LAWLOOP
