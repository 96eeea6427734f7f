/-! a step of the law, put together -/
def OutT (cn : Nat) (tc : TC) (dz : Nat) (ad : KN → Nat) (u : WS) : Prop := ∃ (gm1 : GM) (Z1 : Mem), NY cn gm1 u.2.1 Z1 ∧ AEq ad u.1 ∧ u.2.2 = lay tc u.1 gm1 dz (LL Z1)
/-- returns an int, the world another; any room; it reads the script -/
def GB (l : Launch) (y : MethodName) (cc : ByteArray) (maxL : Nat) (ret : Option FieldType) (fr lo mc ms : Nat) (b L : Nat) (xs : Nat → Int32) (D : va_G) (tc : TC) (dz : Nat) (ad : KN → Nat) (Ks : List KN) (st : KN → va_E) (av : List Value) (P : Int32 → WS → Prop) : Prop :=
  ∀ sz : Nat, Met l y (wsA y cc maxL ret) (rmK fr lo mc ms) (va_Pc av (PreB D tc dz ad Ks st sz b L xs)) (va_Qi P (wsB D ad Ks sz) (wA ad Ks sz)) mc ms (wA ad Ks sz)
set_option maxHeartbeats 4000000 in
set_option maxRecDepth 100000 in
theorem m_L_isDone {l : Launch} {D : va_G} {tc : TC} {dz : Nat} {ad : KN → Nat} {Ks : List KN} {gm : GM} (Z : Mem) (hL : LV gm Ks) (hst : l.stackTraces = false) (hW : LW gm Ks) (hG2 : GM2 gm) (V : Nat → BS) (acts : Nat → Act) (z n m t : Nat) (ac mcs : Nat → Nat) (cn : Nat) (hS : LWS Z gm V acts z n m t ac mcs cn) (hcn : cn < 58) (b L : Nat) (xs : Nat → Int32) (hL60 : L ≤ 260) (at9 : Nat) (hat : at9 ≤ 900) : GB l yL_isDone cL_isDone 26 (Option.some ClassFile.FieldType.boolean) 14 470 5 63 b L xs D tc dz ad Ks (lay tc ad gm dz (LL Z)) [.ref (ad (0, 0, 0, 0)), .ref b, .int (nI at9), .ref (ad (35, 0, 0, 0)), .ref (ad (37, 0, 0, 0)), .ref (ad (39, 0, 0, 0)), .ref (ad (43, 0, 0, 0)), .ref (ad (44, 0, 0, 0)), .ref (ad (41, 0, 0, 0)), .ref (ad (42, 0, 0, 0)), .ref (ad (40, 0, 0, 0)), .ref (ad (45, 0, 0, 0))] (fun r u => r = bI true ∧ OutT (cn + 1) tc dz ad u) := by
  intro sz
  refine x_ofB (by decide +kernel) (Nat.le_of_ble_eq_true rfl) (fun pp ee s mm bel meth cd ls X hXS hr hz h hl => ?_)
  subst hz
  obtain ⟨hx, hb, hmaxL, hown, hts⟩ := id X.1
  have hl : lv_has ls 26 [(0, .ref (ad (0, 0, 0, 0))), (1, .ref b), (2, .int (nI at9)), (3, .ref (ad (35, 0, 0, 0))), (4, .ref (ad (37, 0, 0, 0))), (5, .ref (ad (39, 0, 0, 0))), (6, .ref (ad (43, 0, 0, 0))), (7, .ref (ad (44, 0, 0, 0))), (8, .ref (ad (41, 0, 0, 0))), (9, .ref (ad (42, 0, 0, 0))), (10, .ref (ad (40, 0, 0, 0))), (11, .ref (ad (45, 0, 0, 0)))] := hl
  have hR1 : 14 ≤ (rmK 14 470 5 63).frames := Nat.le_refl _
  have hR2 : 462 ≤ (rmK 14 470 5 63).locals := Nat.le_of_ble_eq_true rfl
  have hRc : (rmK 14 470 5 63).cells = 5 := rfl
  have hRs : (rmK 14 470 5 63).slots = 63 := rfl
  have hXS : XS (wA ad Ks s.heap.size) b L xs s := hXS
  have hn2 := hS.2.2.1
  refine dn_1 X hR1 hR2 (by omega) (by omega) hL hst hW hG2 Z V acts z n m t ac mcs cn hS hcn b at9 L xs hXS hL60 hat h hl (fun what one two three h40 h60 h70 h80 H locs ls h hl => ?_)
  refine dn_2 X hR1 hR2 (by omega) (by omega) hL hst hW hG2 Z V acts z n m t ac mcs cn hS hcn b at9 what one two three h40 h60 h70 h80 h hl (fun dv hdv H locs ls h hl => ?_)
  refine dn_3 X hR1 hR2 (by omega) (by omega) hL hst hW hG2 Z V acts z n m t ac mcs cn hS hcn b at9 what one two three h40 h60 h70 h80 dv h hl (fun en hen H locs ls h hl => ?_)
  refine dn_4 X hR1 hR2 (by omega) (by omega) hL hst hW hG2 Z V acts z n m t ac mcs cn hS hcn b at9 what one two three h40 h60 h70 h80 dv en hdv hen h hl (fun kn hk1 hk2 H locs ls h hl => ?_)
  by_cases w3 : what < 3 ∧ n < 2
  · by_cases h6 : dv = 6
    · skip
      refine dt_entI X hR1 hR2 (by omega) (by omega) hL hst hW hG2 Z V acts z n m t ac mcs cn hS hcn b at9 what one two three h40 h60 h70 h80 dv en hdv hen kn w3.1 w3.2 h6 h hl (fun H locs ls h => ?_)
      exact g_iret X h hr (bI_nar _) ⟨rfl, gm, Z, ⟨hL, hW, hG2, V, acts, z, n, m, t, ac, mcs, hS.mono (Nat.le_succ cn)⟩, (AEq.refl ad), rfl⟩ (by omega) (by omega) dL_isDone_222
    · skip
      refine da_ent X hR1 hR2 (by omega) (by omega) hL hst hW hG2 Z V acts z n m t ac mcs cn hS hcn b at9 what one two three h40 h60 h70 h80 dv en hdv hen kn w3.1 w3.2 (by omega) h hl (fun ad1 Ks1 gm1 Z1 H locs ls hNY hAE h => ?_)
      exact g_iret X h hr (bI_nar _) ⟨rfl, gm1, Z1, hNY, hAE, rfl⟩ (by omega) (by omega) dL_isDone_222
  refine dn_a X hR1 hR2 (by omega) (by omega) hL hst hW hG2 Z V acts z n m t ac mcs cn hS hcn b at9 what one two three h40 h60 h70 h80 dv en hdv hen kn w3 h hl (fun H locs ls h hl => ?_)
  by_cases w16 : what < 16
  · skip
    refine dn_5 X hR1 hR2 (by omega) (by omega) hL hst hW hG2 Z V acts z n m t ac mcs cn hS hcn b at9 what one two three h40 h60 h70 h80 dv en hdv hen kn w16 h hl (fun fl hfl H locs ls h hl => ?_)
    refine dn_6 X hR1 hR2 (by omega) (by omega) hL hst hW hG2 Z V acts z n m t ac mcs cn hS hcn b at9 what one two three h40 h60 h70 h80 dv en hdv hen kn fl h hl (fun rt9 H locs ls h hl => ?_)
    cases kn with
    | false =>
      refine dt_telI0 X hR1 hR2 (by omega) (by omega) hL hst hW hG2 Z V acts z n m t ac mcs cn hS hcn b at9 what one two three h40 h60 h70 h80 dv en hdv hen fl hfl rt9 (hk2 rfl) h hl (fun H locs ls h => ?_)
      exact g_iret X h hr (bI_nar _) ⟨rfl, gm, Z, ⟨hL, hW, hG2, V, acts, z, n, m, t, ac, mcs, hS.mono (Nat.le_succ cn)⟩, (AEq.refl ad), rfl⟩ (by omega) (by omega) dL_isDone_514
    | true =>
      obtain ⟨hd, hk, h34⟩ := hk1 rfl
      by_cases hf : fl < 4
      · cases rt9 with
        | false =>
          refine dt_telA X hR1 hR2 (by omega) (by omega) hL hst hW hG2 Z V acts z n m t ac mcs cn hS hcn b at9 what one two three h40 h60 h70 h80 dv en hdv hen fl hf hd hk h34 h hl (fun H locs ls h => ?_)
          exact g_iret X h hr (bI_nar _) ⟨rfl, gm, Z, ⟨hL, hW, hG2, V, acts, z, n, m, t, ac, mcs, hS.mono (Nat.le_succ cn)⟩, (AEq.refl ad), rfl⟩ (by omega) (by omega) dL_isDone_514
        | true =>
          cases hmay : mayB Z dv en fl with
          | false =>
            refine dt_telS X hR1 hR2 (by omega) (by omega) hL hst hW hG2 Z V acts z n m t ac mcs cn hS hcn b at9 what one two three h40 h60 h70 h80 dv en hdv hen fl hf hmay hd hk h34 h hl (fun H locs ls h => ?_)
            exact g_iret X h hr (bI_nar _) ⟨rfl, gm, Z, ⟨hL, hW, hG2, V, acts, z, n, m, t, ac, mcs, hS.mono (Nat.le_succ cn)⟩, (AEq.refl ad), rfl⟩ (by omega) (by omega) dL_isDone_514
          | true =>
            by_cases h36 : three % 6 = 0
            · skip
              refine da_tel1 X hR1 hR2 (by omega) (by omega) hL hst hW hG2 Z V acts z n m t ac mcs cn hS hcn b at9 what one two three h40 h60 h70 h80 dv en hdv hen fl hf hmay hd hk h34 h36 h hl (fun ad1 Ks1 gm1 Z1 H locs ls hNY hAE h => ?_)
              exact g_iret X h hr (bI_nar _) ⟨rfl, gm1, Z1, hNY, hAE, rfl⟩ (by omega) (by omega) dL_isDone_514
            · skip
              refine da_tel2 X hR1 hR2 (by omega) (by omega) hL hst hW hG2 Z V acts z n m t ac mcs cn hS hcn b at9 what one two three h40 h60 h70 h80 dv en hdv hen fl hf hmay hd hk h34 h36 h hl (fun ad1 Ks1 gm1 Z1 H locs ls hNY hAE h => ?_)
              exact g_iret X h hr (bI_nar _) ⟨rfl, gm1, Z1, hNY, hAE, rfl⟩ (by omega) (by omega) dL_isDone_514
      · have e4 : fl = 4 := by omega
        subst e4
        refine dt_telI4 X hR1 hR2 (by omega) (by omega) hL hst hW hG2 Z V acts z n m t ac mcs cn hS hcn b at9 what one two three h40 h60 h70 h80 dv en hdv hen rt9 hd hk h34 h hl (fun H locs ls h => ?_)
        exact g_iret X h hr (bI_nar _) ⟨rfl, gm, Z, ⟨hL, hW, hG2, V, acts, z, n, m, t, ac, mcs, hS.mono (Nat.le_succ cn)⟩, (AEq.refl ad), rfl⟩ (by omega) (by omega) dL_isDone_514
  refine dn_b X hR1 hR2 (by omega) (by omega) hL hst hW hG2 Z V acts z n m t ac mcs cn hS hcn b at9 what one two three h40 h60 h70 h80 dv en hdv hen kn (by omega) h hl (fun H locs ls h hl => ?_)
  by_cases w20 : what < 20
  · cases kn with
    | false =>
      refine dt_delI X hR1 hR2 (by omega) (by omega) hL hst hW hG2 Z V acts z n m t ac mcs cn hS hcn b at9 what one two three h40 h60 h70 h80 dv en hdv hen w20 (hk2 rfl) h hl (fun H locs ls h => ?_)
      exact g_iret X h hr (bI_nar _) ⟨rfl, gm, Z, ⟨hL, hW, hG2, V, acts, z, n, m, t, ac, mcs, hS.mono (Nat.le_succ cn)⟩, (AEq.refl ad), rfl⟩ (by omega) (by omega) dL_isDone_745
    | true =>
      obtain ⟨hd, hk, h34⟩ := hk1 rfl
      by_cases how : Z (32, 0, 0, 0) en = nI (dv / 2)
      · by_cases hst1 : mstR Z dv en m = 1
        · by_cases hm : m = 10
          · skip
            refine dt_delM X hR1 hR2 (by omega) (by omega) hL hst hW hG2 Z V acts z n m t ac mcs cn hS hcn b at9 what one two three h40 h60 h70 h80 dv en hdv hen w20 hd hk h34 how hst1 hm h hl (fun H locs ls h => ?_)
            exact g_iret X h hr (bI_nar _) ⟨rfl, gm, Z, ⟨hL, hW, hG2, V, acts, z, n, m, t, ac, mcs, hS.mono (Nat.le_succ cn)⟩, (AEq.refl ad), rfl⟩ (by omega) (by omega) dL_isDone_601
          · have hm10 := hS.2.2.2
            refine da_del X hR1 hR2 (by omega) (by omega) hL hst hW hG2 Z V acts z n m t ac mcs cn hS hcn b at9 what one two three h40 h60 h70 h80 dv en hdv hen w20 hd hk h34 how hst1 (by omega) h hl (fun ad1 Ks1 gm1 Z1 H locs ls hNY hAE h => ?_)
            exact g_iret X h hr (bI_nar _) ⟨rfl, gm1, Z1, hNY, hAE, rfl⟩ (by omega) (by omega) dL_isDone_745
        · skip
          refine dt_delS2 X hR1 hR2 (by omega) (by omega) hL hst hW hG2 Z V acts z n m t ac mcs cn hS hcn b at9 what one two three h40 h60 h70 h80 dv en hdv hen w20 hd hk h34 how hst1 h hl (fun H locs ls h => ?_)
          exact g_iret X h hr (bI_nar _) ⟨rfl, gm, Z, ⟨hL, hW, hG2, V, acts, z, n, m, t, ac, mcs, hS.mono (Nat.le_succ cn)⟩, (AEq.refl ad), rfl⟩ (by omega) (by omega) dL_isDone_745
      · skip
        refine dt_delS1 X hR1 hR2 (by omega) (by omega) hL hst hW hG2 Z V acts z n m t ac mcs cn hS hcn b at9 what one two three h40 h60 h70 h80 dv en hdv hen w20 hd hk h34 how h hl (fun H locs ls h => ?_)
        exact g_iret X h hr (bI_nar _) ⟨rfl, gm, Z, ⟨hL, hW, hG2, V, acts, z, n, m, t, ac, mcs, hS.mono (Nat.le_succ cn)⟩, (AEq.refl ad), rfl⟩ (by omega) (by omega) dL_isDone_745
  refine dn_c X hR1 hR2 (by omega) (by omega) hL hst hW hG2 Z V acts z n m t ac mcs cn hS hcn b at9 what one two three h40 h60 h70 h80 dv en hdv hen kn (by omega) h hl (fun H locs ls h hl => ?_)
  by_cases w25 : what < 25
  · skip
    refine dn_7 X hR1 hR2 (by omega) (by omega) hL hst hW hG2 Z V acts z n m t ac mcs cn hS hcn b at9 what one two three h40 h60 h70 h80 dv en hdv hen kn w25 h hl (fun pn hpn H locs ls h hl => ?_)
    refine dn_8 X hR1 hR2 (by omega) (by omega) hL hst hW hG2 Z V acts z n m t ac mcs cn hS hcn b at9 what one two three h40 h60 h70 h80 dv en hdv hen kn pn h hl (fun st9 hst9 H locs ls h hl => ?_)
    cases kn with
    | false =>
      refine dt_shrI0 X hR1 hR2 (by omega) (by omega) hL hst hW hG2 Z V acts z n m t ac mcs cn hS hcn b at9 what one two three h40 h60 h70 h80 dv en hdv hen pn st9 hpn hst9 (hk2 rfl) h hl (fun H locs ls h => ?_)
      exact g_iret X h hr (bI_nar _) ⟨rfl, gm, Z, ⟨hL, hW, hG2, V, acts, z, n, m, t, ac, mcs, hS.mono (Nat.le_succ cn)⟩, (AEq.refl ad), rfl⟩ (by omega) (by omega) dL_isDone_1060
    | true =>
      obtain ⟨hd, hk, h34⟩ := hk1 rfl
      by_cases hp3 : pn < 3
      · by_cases h16 : st9 < 16
        · by_cases how : Z (32, 0, 0, 0) en = nI (dv / 2)
          · by_cases hpd : pn = dv / 2
            · skip
              refine dt_shrS2 X hR1 hR2 (by omega) (by omega) hL hst hW hG2 Z V acts z n m t ac mcs cn hS hcn b at9 what one two three h40 h60 h70 h80 dv en hdv hen pn st9 hp3 h16 hd hk h34 how hpd h hl (fun H locs ls h => ?_)
              exact g_iret X h hr (bI_nar _) ⟨rfl, gm, Z, ⟨hL, hW, hG2, V, acts, z, n, m, t, ac, mcs, hS.mono (Nat.le_succ cn)⟩, (AEq.refl ad), rfl⟩ (by omega) (by omega) dL_isDone_1060
            · skip
              refine da_shr X hR1 hR2 (by omega) (by omega) hL hst hW hG2 Z V acts z n m t ac mcs cn hS hcn b at9 what one two three h40 h60 h70 h80 dv en hdv hen pn st9 hp3 h16 hd hk h34 how hpd h hl (fun ad1 Ks1 gm1 Z1 H locs ls hNY hAE h => ?_)
              exact g_iret X h hr (bI_nar _) ⟨rfl, gm1, Z1, hNY, hAE, rfl⟩ (by omega) (by omega) dL_isDone_1060
          · skip
            refine dt_shrS1 X hR1 hR2 (by omega) (by omega) hL hst hW hG2 Z V acts z n m t ac mcs cn hS hcn b at9 what one two three h40 h60 h70 h80 dv en hdv hen pn st9 hp3 h16 hd hk h34 how h hl (fun H locs ls h => ?_)
            exact g_iret X h hr (bI_nar _) ⟨rfl, gm, Z, ⟨hL, hW, hG2, V, acts, z, n, m, t, ac, mcs, hS.mono (Nat.le_succ cn)⟩, (AEq.refl ad), rfl⟩ (by omega) (by omega) dL_isDone_1060
        · have e4 : st9 = 16 := by omega
          subst e4
          refine dt_shrA X hR1 hR2 (by omega) (by omega) hL hst hW hG2 Z V acts z n m t ac mcs cn hS hcn b at9 what one two three h40 h60 h70 h80 dv en hdv hen pn hp3 hd hk h34 h hl (fun H locs ls h => ?_)
          exact g_iret X h hr (bI_nar _) ⟨rfl, gm, Z, ⟨hL, hW, hG2, V, acts, z, n, m, t, ac, mcs, hS.mono (Nat.le_succ cn)⟩, (AEq.refl ad), rfl⟩ (by omega) (by omega) dL_isDone_1060
      · have e4 : pn = 3 := by omega
        subst e4
        refine dt_shrI3 X hR1 hR2 (by omega) (by omega) hL hst hW hG2 Z V acts z n m t ac mcs cn hS hcn b at9 what one two three h40 h60 h70 h80 dv en hdv hen st9 hst9 hd hk h34 h hl (fun H locs ls h => ?_)
        exact g_iret X h hr (bI_nar _) ⟨rfl, gm, Z, ⟨hL, hW, hG2, V, acts, z, n, m, t, ac, mcs, hS.mono (Nat.le_succ cn)⟩, (AEq.refl ad), rfl⟩ (by omega) (by omega) dL_isDone_1060
  refine dn_d X hR1 hR2 (by omega) (by omega) hL hst hW hG2 Z V acts z n m t ac mcs cn hS hcn b at9 what one two three h40 h60 h70 h80 dv en hdv hen kn (by omega) h hl (fun H locs ls h hl => ?_)
  have hBK := lb_bk (G := Z) hS.1 (fun _ _ => rfl)
  by_cases w37 : what < 37
  · skip
    refine dn_m X hR1 hR2 (by omega) (by omega) hL hst hW hG2 Z V acts z n m t ac mcs cn hS hcn b at9 what one two three h40 h60 h70 h80 dv en hdv hen kn w37 h hl (fun ov hov H locs ls h hsz9 => ?_)
    by_cases h5 : 5 < dv ∨ 5 < ov
    · skip
      refine x_doneI X h (x_runSR X h (m_L_isMerged_I Z hL hst hG2 n mcs hBK dv ov (by omega) (by omega) h5 _) F_L_isMerged q775 q776 rfl rfl rfl (Nat.le_of_ble_eq_true rfl) (Nat.le_of_ble_eq_true rfl) ⟨by omega, by omega⟩ hsz9 (Nat.le_of_ble_eq_true rfl) dL_isDone_1108 rfl) (fun H locs h => ?_)
      exact g_iret X h hr (bI_nar _) ⟨rfl, gm, Z, ⟨hL, hW, hG2, V, acts, z, n, m, t, ac, mcs, hS.mono (Nat.le_succ cn)⟩, (AEq.refl ad), rfl⟩ (by omega) (by omega) dL_isDone_1111
    · by_cases hne : dv = ov
      · skip
        refine x_doneI X h (x_runSR X h (m_L_isMerged_A Z hL hst hG2 n mcs hBK dv ov (by omega) (by omega) ⟨hne, by omega⟩ _) F_L_isMerged q775 q776 rfl rfl rfl (Nat.le_of_ble_eq_true rfl) (Nat.le_of_ble_eq_true rfl) ⟨by omega, by omega⟩ hsz9 (Nat.le_of_ble_eq_true rfl) dL_isDone_1108 rfl) (fun H locs h => ?_)
        exact g_iret X h hr (bI_nar _) ⟨rfl, gm, Z, ⟨hL, hW, hG2, V, acts, z, n, m, t, ac, mcs, hS.mono (Nat.le_succ cn)⟩, (AEq.refl ad), rfl⟩ (by omega) (by omega) dL_isDone_1111
      · skip
        refine x_doneI X h (x_runSR X h (m_L_isMerged_ok Z hL hst hW hG2 V acts z n m t ac mcs cn hS hcn dv ov (by omega) (by omega) hne _) F_L_isMerged q775 q776 rfl rfl rfl (Nat.le_of_ble_eq_true rfl) (Nat.le_of_ble_eq_true rfl) ⟨by omega, by omega⟩ hsz9 (Nat.le_of_ble_eq_true rfl) dL_isDone_1108 rfl) (fun H locs h => ?_)
        obtain ⟨⟨hT9, hRb⟩, -⟩ := st_merge hS (d := dv) (o := ov) (by omega) (by omega) hne
        rw [hRb] at h
        exact g_iret X h hr (bI_nar _) ⟨rfl, gm, _, ⟨hL, hW, hG2, hT9⟩, (AEq.refl ad), rfl⟩ (by omega) (by omega) dL_isDone_1111
  refine dn_e X hR1 hR2 (by omega) (by omega) hL hst hW hG2 Z V acts z n m t ac mcs cn hS hcn b at9 what one two three h40 h60 h70 h80 dv en hdv hen kn (by omega) h hl (fun H locs ls h hl => ?_)
  refine dn_p X hR1 hR2 (by omega) (by omega) hL hst hW hG2 Z V acts z n m t ac mcs cn hS hcn b at9 what one two three h40 h60 h70 h80 dv en hdv hen kn h hl (fun xv hxv H locs ls h hsz9 => ?_)
  rcases hxv with h25 | ⟨hx0, hx15⟩
  · skip
    refine x_doneI X h (x_runSR X h (m_L_isPassed_A Z hL hst hG2 n mcs hBK xv (by omega) (by omega) _) F_L_isPassed q793 q794 rfl rfl rfl (Nat.le_of_ble_eq_true rfl) (Nat.le_of_ble_eq_true rfl) ⟨by omega, by omega⟩ hsz9 (Nat.le_of_ble_eq_true rfl) dL_isDone_1148 rfl) (fun H locs h => ?_)
    exact g_iret X h hr (bI_nar _) ⟨rfl, gm, Z, ⟨hL, hW, hG2, V, acts, z, n, m, t, ac, mcs, hS.mono (Nat.le_succ cn)⟩, (AEq.refl ad), rfl⟩ (by omega) (by omega) dL_isDone_1151
  · skip
    refine x_doneI X h (x_runSR X h (m_L_isPassed_ok Z hL hst hW hG2 V acts z n m t ac mcs cn hS hcn xv hx0 (by omega) _) F_L_isPassed q793 q794 rfl rfl rfl (Nat.le_of_ble_eq_true rfl) (Nat.le_of_ble_eq_true rfl) ⟨by omega, by omega⟩ hsz9 (Nat.le_of_ble_eq_true rfl) dL_isDone_1148 rfl) (fun H locs h => ?_)
    obtain ⟨⟨hT9, hRb⟩, -⟩ := st_pass hS hcn (x := xv) (by omega)
    rw [hRb] at h
    exact g_iret X h hr (bI_nar _) ⟨rfl, gm, _, ⟨hL, hW, hG2, hT9⟩, (AEq.refl ad), rfl⟩ (by omega) (by omega) dL_isDone_1151
