/-! the law: its stretches -/
section PARTS16
variable {p : Program} {l : Launch} {e : Env} {R : Room} {s : State} {m : MethodId} {args : Array Value} {below : List Frame} {meth : Method} {c : Code} {H : Heap} {locs : List Loc} {cells slots : Nat} {Q : State → Prop}
variable {cc : ByteArray} {own : String} {nL : Nat} {D : va_G} {tc : TC} {dz : Nat} {A : Nat → Prop} {ad : KN → Nat} {Ks : List KN} {st : KN → va_E} {pc : Nat} {ls : Array Slot} {rest : List Value}
/-- a call over a deeper stack -/
theorem va_runS16 {y : MethodName} {bytes : ByteArray} {maxL n mc ms index : Nat} {ret : Option FieldType} {ws : List Cond} {rm : Room} {Pc : Array Value → State → Prop} {Qc : Array Value → State → Outcome → State → Prop} {free : Addr → Prop} {Ts : List Cond} {As : List Value} {g : JFrame} (S : CallFix p m c cc nL s args Ts own) (hM : Met l y ws rm Pc Qc mc ms free) (cw : CallB R s args own index y bytes maxL ret ws rm mc ms n ∧ (Cond.static y).before args s = true) (hlo : 16 + (maxL + 11) + rm.locals ≤ R.locals) (hp : PreS s H Pc As)
    (hg : g.method = m) (hn : As.length = n) (hsize : g.locals.size = nL) (hstack : g.stack = As.reverse ++ rest) (hW : 2 * g.monitorRoom + (rest.map fun v => v.category).sum ≤ 16) (hdg : decode cc g.pc = .ok (.invokestatic index, 3)) (hf : cells + mc ≤ R.cells ∧ slots + ms ≤ R.slots) :
    va_Run p l e R s m args below meth c H locs cells slots mc ms g rest (Qc As.toArray) (free) := by
  have hK : Back l R p e below s args y 3 16 (PreOf R mc ms Pc) (PostOf Qc mc ms free) := by
    obtain ⟨hrc, hrs, hfr, -, hws, hcw, -, hini, -⟩ := cw.1
    exact back_of (bytes := bytes) (maxL := maxL) (ret := ret) hM hp.1 hrc hrs hfr hlo hws hcw (fun a' U hW => word_at hW (Or.inl (by first | rfl | simp [Cond.onTables, Cond.keeps, Cond.steady])) hini)
  obtain ⟨⟨-, -, -, -, -, -, hcode, hini, hy, hlen, hl⟩, hstt⟩ := cw
  obtain ⟨hx, hb, hml, ho, -⟩ := S
  intro T hT X
  obtain ⟨v, vm₁, ⟨U', l2, c2, s2⟩, hW₁, X', ⟨g', mk, t, L, e1, e2, hq, h1, hL, h2, h3⟩, st⟩ := callS X hx (bytes := bytes) (maxL := maxL) (ret := ret) ho hl hstt hini hcode hy hK hg (hsize.trans hml.symm) (argsL := As) (rest := rest) (fun sig h => hn.trans (hlen sig h)) hstack hW (by rw [hb]; exact hdg)
    (fun vm₁ hW₁ => ⟨hf.1, hf.2, hp.2 (T.setVm vm₁) hT hW₁⟩)
  dsimp only [Pt.U, Pt.locs, Pt.cells, Pt.slots] at X' e1 e2 h1 h2 h3 st
  subst h1; subst h2; subst h3
  exact ⟨v, (T.setVm vm₁).calling g' mk As.toArray, t, U', L, hT, X', hL, e1, e2, hq, st⟩
theorem lv_room16 {st : List Value} (h : (st.map fun v => v.category).sum ≤ 16) : 2 * (F0 m pc ls rest).monitorRoom + (st.map fun v => v.category).sum ≤ 16 := by
  show 2 * 0 + _ ≤ 16
  omega
theorem x_runB16 {rm : Room} {y : MethodName} {bytes : ByteArray} {maxL n mc ms index : Nat} {ret : Option FieldType} {As : List Value} {Qc : Array Value → State → Outcome → State → Prop} {free : Addr → Prop} {b L : Nat} {xs : Nat → Int32} (X : Cx p s m args meth c cc own nL D tc dz A) (hX : XS A b L xs s) (h : Sx D A ad Ks st s H locs) (hM : Met l y (wsA y bytes maxL ret) rm (va_Pc As (PreB D tc dz ad Ks st H.size b L xs)) Qc mc ms free) (F : YF y bytes maxL ret n) (w1 : Cond.methodLink own index y ∈ AW) (w2 : Cond.static y ∈ AW) (hn : As.length = n) (hrc : rm.cells = mc) (hrs : rm.slots = ms) (hf : rm.frames + 1 ≤ R.frames) (hlo : 16 + (maxL + 11) + rm.locals ≤ R.locals) (hcl : cells + mc ≤ R.cells ∧ slots + ms ≤ R.slots) (hsize : ls.size = nL) (hcat : (rest.map fun v => v.category).sum ≤ 16) (hdg : decode cc pc = .ok (.invokestatic index, 3)) {st0 : List Value} (hst : st0 = As.reverse ++ rest) :
    va_Run p l e R s m args below meth c H locs cells slots mc ms (F0 m pc ls st0) rest (Qc As.toArray) free := by
  have hB : CallB R s args own index y bytes maxL ret (wsA y bytes maxL ret) rm mc ms n := by
    obtain ⟨⟨hx, hb, -, hown, hts⟩, -⟩ := X
    exact callB_of n hts (goodIn_A F.1) rfl hrc hrs (hts _ F.2.1) (hts _ w1) F.2.2 ⟨hf, by omega⟩
  have hsz := h.2.2.1
  refine va_runS16 X.1 hM ⟨hB, X.1.2.2.2.2 _ w2⟩ hlo ⟨PreB.blind, fun U hU hW => ⟨rfl, PreW.of X h U hU hW, ?_, Nat.lt_of_lt_of_le hX.2.1 hsz, fun q => hX.2.2 (wA_sub h.2.1 h.2.2 X.2.2.2.2.2 _ q)⟩⟩ rfl hn hsize hst (lv_room16 hcat) hdg hcl
  have w := (hX.1.kept (H1 := H) (h.2.2.2.1 b hX.2.1 hX.2.2)).moved hW.alike
  rw [hU]
  exact w
theorem x_part16 {b L : Nat} {xs : Nat → Int32} {index i N : Nat} (X : Cx p s m args meth c cc own nL D tc dz A) (hX : XS A b L xs s) (h : Sx D A ad Ks st s H locs) (hL : L ≤ 260) (hi : i < 1000) (hN0 : 0 < N) (hN : N < 2 ^ 31) (w1 : Cond.methodLink own index yL_part ∈ AW) (w2 : Cond.static yL_part ∈ AW) (hf : 1 ≤ R.frames) (hlo : 31 ≤ R.locals) (hc : cells ≤ R.cells) (hs : slots ≤ R.slots) (hsize : ls.size = nL) (hcat : (rest.map fun v => v.category).sum ≤ 16) (hdg : decode cc pc = .ok (.invokestatic index, 3))
    (kk : ∀ (j : Nat) (H1 : Heap) (locs1 : List Loc), j < N → Sx D A ad Ks st s H1 locs1 → W p l e R s m args below meth c H1 locs1 cells slots Q (F0 m (pc + 3) ls (.int (nI j) :: rest))) : W p l e R s m args below meth c H locs cells slots Q (F0 m pc ls (.int (nI N) :: .int (nI i) :: .ref b :: rest)) := by
  refine g_doneI X h (x_runB16 (rm := rmK 0 0 0 0) X hX h (m_L_part (l := l) b L xs i N hL hi hN0 hN _) F_L_part w1 w2 rfl rfl rfl hf hlo ⟨hc, hs⟩ hsize hcat hdg rfl) (fun r u H1 locs1 hP h1 => ?_)
  obtain ⟨⟨j, hj, rfl⟩, rfl⟩ := hP
  exact kk j H1 locs1 hj h1
end PARTS16
theorem ag_00 : Op.cmpValue (FP.fcmp (agF 0 0) FP.fconst1) .l = 0 := by decide +kernel
section SEGS
variable {p : Program} {l : Launch} {e : Env} {R : Room} {s : State} {mth : MethodId} {args : Array Value} {below : List Frame} {meth : Method} {c : Code} {H : Heap} {locs : List Loc} {cells slots : Nat} {Q : State → Prop}
variable {D : va_G} {tc : TC} {dz : Nat} {A : Nat → Prop} {ad : KN → Nat} {Ks : List KN} {gm : GM} {ls : Array Slot}
set_option maxHeartbeats 4000000 in
set_option maxRecDepth 100000 in
theorem lw_0 (X : Cx p s mth args meth c cL_law yL_law.cls 14 D tc dz A) (hR1 : 15 ≤ R.frames) (hR2 : 525 ≤ R.locals) (hcR : cells + 1 ≤ R.cells) (hsR : slots + 6 ≤ R.slots) (hL : LV gm Ks) (hst : l.stackTraces = false) (hW : LW gm Ks) (hG2 : GM2 gm) (Z : Mem) (V : Nat → BS) (acts : Nat → Act) (z n m t : Nat) (ac mcs : Nat → Nat) (cn : Nat) (hS : LWS Z gm V acts z n m t ac mcs cn) (hcn : cn < 59) (b : Nat) (hn0 : n = 0) (h : Sx D A ad Ks (lay tc ad gm dz (LL Z)) s H locs) (hl : lv_has ls 14 [(0, .ref b), (1, .ref (ad (0, 0, 0, 0))), (2, .ref (ad (35, 0, 0, 0))), (3, .ref (ad (37, 0, 0, 0))), (4, .ref (ad (39, 0, 0, 0))), (5, .ref (ad (43, 0, 0, 0))), (6, .ref (ad (44, 0, 0, 0))), (7, .ref (ad (41, 0, 0, 0))), (8, .ref (ad (42, 0, 0, 0))), (9, .ref (ad (40, 0, 0, 0))), (10, .ref (ad (45, 0, 0, 0)))])
    (kk : ∀ (H1 : Heap) (locs1 : List Loc) (ls1 : Array Slot), Sx D A ad Ks (lay tc ad gm dz (LL Z)) s H1 locs1 → lv_has ls1 14 [(12, .int (nI 0)), (11, .int (bI true)), (0, .ref b), (1, .ref (ad (0, 0, 0, 0))), (2, .ref (ad (35, 0, 0, 0))), (3, .ref (ad (37, 0, 0, 0))), (4, .ref (ad (39, 0, 0, 0))), (5, .ref (ad (43, 0, 0, 0))), (6, .ref (ad (44, 0, 0, 0))), (7, .ref (ad (41, 0, 0, 0))), (8, .ref (ad (42, 0, 0, 0))), (9, .ref (ad (40, 0, 0, 0))), (10, .ref (ad (45, 0, 0, 0)))] → W p l e R s mth args below meth c H1 locs1 (cells + 1) (slots + 6) Q (F0 mth 104 ls1 [])) : W p l e R s mth args below meth c H locs cells slots Q (F0 mth 60 ls []) := by
  have hok := hS.2.1
  have hn2 := hS.2.2.1
  have hN := nr_of hS.1.1
  have hBK := lb_bk (G := Z) hS.1 (fun _ _ => rfl)
  have hR9 := lb_rel0 (G := Z) hS.1.1 (fun _ _ => rfl)
  have hcl : mclN Z 0 m n = 0 := by rw [hn0]; rfl
  have hga : magA Z 0 5 m n = 0 := by rw [hn0]; rfl
  have hsa : masA Z 0 5 m n = 0 := by rw [hn0]; rfl
  obtain ⟨hx, hb, hmaxL, hown, hts⟩ := id X.1
  refine lv_aload_n hx hb dL_law_60 rfl (lv_at hl 1 rfl) ?_
  refine lv_iconst (v := nI 0) hx hb dL_law_61 (by decide) ?_
  refine lv_iconst (v := nI 0) hx hb dL_law_62 (by decide) ?_
  refine lv_iconst (v := nI 0) hx hb dL_law_63 (by decide) ?_
  refine lv_iconst (v := nI 0) hx hb dL_law_64 (by decide) ?_
  refine lv_iconst (v := nI 0) hx hb dL_law_65 (by decide) ?_
  refine x_doneI X h (x_runSH (n := 6) X h (w_asks_state_I (LL Z) hL (lv := 9) (by decide) (nI 0) (nI 0) (nI 0) (nI 0) (x_X6_state_1 (LL Z) hst hL hG2.ok n mcs hBK (nI 0) (nI 0) (by rw [hn0]; decide)) _) q669 q5 q667 q668 ⟨by decide, by decide, by decide +kernel⟩ rfl (Nat.le_trans (by decide) hR1) (Nat.le_trans (by decide) hR2) ⟨by omega, by omega⟩ hl.1 (Nat.le_of_ble_eq_true rfl) dL_law_66 rfl) (fun H locs h => ?_)
  refine lv_sipush (v := (-300)) hx hb dL_law_69 (by decide) ?_
  refine lv_icmp_ne (tgt := 98) hx hb dL_law_72 (by decide) (fun c => absurd rfl c) (fun _ => ?_)
  refine lv_aload_n hx hb dL_law_75 rfl (lv_at hl 1 rfl) ?_
  refine lv_iconst (v := nI 0) hx hb dL_law_76 (by decide) ?_
  refine x_doneI X h (x_runV X h (k := (0, 0, 0, 0)) (m_X6_clashes (LL Z) hL hG2.ok n mcs hBK 0 (by decide) _) F_X6_clashes q198 q199 q200 (hL (0, 0, 0, 0) ⟨rfl, rfl, rfl⟩) rfl rfl rfl (Nat.le_trans (by decide) hR1) (Nat.le_trans (by decide) hR2) ⟨by omega, by omega⟩ hl.1 (Nat.le_of_ble_eq_true rfl) dL_law_77 rfl) (fun H locs h => ?_)
  rw [rl_cln hR9 (by decide) n (by omega), hcl]
  refine lv_if_ne (tgt := 98) hx hb dL_law_80 (by decide) (fun c => absurd c (by decide)) (fun _ => ?_)
  refine lv_aload_n hx hb dL_law_83 rfl (lv_at hl 1 rfl) ?_
  refine lv_iconst (v := nI 0) hx hb dL_law_84 (by decide) ?_
  refine lv_iconst (v := nI 5) hx hb dL_law_85 (by decide) ?_
  refine x_doneF X h (x_runV X h (k := (0, 0, 0, 0)) (m_X6_agreement (LL Z) hL hG2.ok n mcs hBK 0 5 (by decide) (by decide) (magA Z 0 5 m n) (rl_bcm hR9 (by decide) (by decide) n (by omega)) (by omega) _) F_X6_agreement q330 q331 q332 (hL (0, 0, 0, 0) ⟨rfl, rfl, rfl⟩) rfl rfl rfl (Nat.le_trans (by decide) hR1) (Nat.le_trans (by decide) hR2) ⟨by omega, by omega⟩ hl.1 (Nat.le_of_ble_eq_true rfl) dL_law_86 rfl) (fun H locs h => ?_)
  rw [rl_bsm hR9 (by decide) (by decide) n (by omega), hga, hsa]
  refine lv_fconst1 hx hb dL_law_89 ?_
  refine lv_fcmp hx hb dL_law_90 ?_
  refine lv_if_ne (tgt := 98) hx hb dL_law_91 (by decide) (fun c => absurd ag_00 c) (fun _ => ?_)
  refine lv_iconst (v := nI 1) hx hb dL_law_94 (by decide) ?_
  refine lv_goto (tgt := 99) hx hb dL_law_95 (by decide) ?_
  rw [show nI 1 = bI true from rfl]
  refine lv_istore (lv' := [(11, .int (bI true)), (0, .ref b), (1, .ref (ad (0, 0, 0, 0))), (2, .ref (ad (35, 0, 0, 0))), (3, .ref (ad (37, 0, 0, 0))), (4, .ref (ad (39, 0, 0, 0))), (5, .ref (ad (43, 0, 0, 0))), (6, .ref (ad (44, 0, 0, 0))), (7, .ref (ad (41, 0, 0, 0))), (8, .ref (ad (42, 0, 0, 0))), (9, .ref (ad (40, 0, 0, 0))), (10, .ref (ad (45, 0, 0, 0)))]) hx hb dL_law_99 hl (by decide) rfl (fun ls hl => ?_)
  refine lv_iconst (v := nI 0) hx hb dL_law_101 (by decide) ?_
  refine lv_istore (lv' := [(12, .int (nI 0)), (11, .int (bI true)), (0, .ref b), (1, .ref (ad (0, 0, 0, 0))), (2, .ref (ad (35, 0, 0, 0))), (3, .ref (ad (37, 0, 0, 0))), (4, .ref (ad (39, 0, 0, 0))), (5, .ref (ad (43, 0, 0, 0))), (6, .ref (ad (44, 0, 0, 0))), (7, .ref (ad (41, 0, 0, 0))), (8, .ref (ad (42, 0, 0, 0))), (9, .ref (ad (40, 0, 0, 0))), (10, .ref (ad (45, 0, 0, 0)))]) hx hb dL_law_102 hl (by decide) rfl (fun ls hl => ?_)
  exact kk H locs ls h (lv_sub hl [0, 1, 2, 3, 4, 5, 6, 7, 8, 9, 10, 11, 12] rfl)

set_option maxHeartbeats 4000000 in
set_option maxRecDepth 100000 in
theorem lw_1 (X : Cx p s mth args meth c cL_law yL_law.cls 14 D tc dz A) (hR1 : 15 ≤ R.frames) (hR2 : 525 ≤ R.locals) (hcR : cells + 5 ≤ R.cells) (hsR : slots + 63 ≤ R.slots) (hL : LV gm Ks) (hst : l.stackTraces = false) (hW : LW gm Ks) (hG2 : GM2 gm) (Z : Mem) (V : Nat → BS) (acts : Nat → Act) (z n m t : Nat) (ac mcs : Nat → Nat) (cn : Nat) (hS : LWS Z gm V acts z n m t ac mcs cn) (hcn : cn < 59) (b : Nat) (hcn8 : cn < 58) (L : Nat) (xs : Nat → Int32) (hXS : XS A b L xs s) (hL60 : L ≤ 260) (cj : Nat) (hcj : cj < 58) (h : Sx D A ad Ks (lay tc ad gm dz (LL Z)) s H locs) (hl : lv_has ls 14 [(12, .int (nI cj)), (11, .int (bI true)), (0, .ref b), (1, .ref (ad (0, 0, 0, 0))), (2, .ref (ad (35, 0, 0, 0))), (3, .ref (ad (37, 0, 0, 0))), (4, .ref (ad (39, 0, 0, 0))), (5, .ref (ad (43, 0, 0, 0))), (6, .ref (ad (44, 0, 0, 0))), (7, .ref (ad (41, 0, 0, 0))), (8, .ref (ad (42, 0, 0, 0))), (9, .ref (ad (40, 0, 0, 0))), (10, .ref (ad (45, 0, 0, 0)))])
    (kk : ∀ (ad1 : KN → Nat) (Ks1 : List KN) (gm1 : GM) (Z1 : Mem) (H1 : Heap) (locs1 : List Loc) (ls1 : Array Slot), NY (cn + 1) gm1 Ks1 Z1 → AEq ad ad1 → Sx D A ad1 Ks1 (lay tc ad1 gm1 dz (LL Z1)) s H1 locs1 → lv_has ls1 14 [(12, .int (nI cj)), (11, .int (bI true)), (0, .ref b), (1, .ref (ad1 (0, 0, 0, 0))), (2, .ref (ad1 (35, 0, 0, 0))), (3, .ref (ad1 (37, 0, 0, 0))), (4, .ref (ad1 (39, 0, 0, 0))), (5, .ref (ad1 (43, 0, 0, 0))), (6, .ref (ad1 (44, 0, 0, 0))), (7, .ref (ad1 (41, 0, 0, 0))), (8, .ref (ad1 (42, 0, 0, 0))), (9, .ref (ad1 (40, 0, 0, 0))), (10, .ref (ad1 (45, 0, 0, 0)))] → W p l e R s mth args below meth c H1 locs1 (cells + 5) (slots + 63) Q (F0 mth 144 ls1 [])) : W p l e R s mth args below meth c H locs cells slots Q (F0 mth 104 ls []) := by
  have hok := hS.2.1
  have hn2 := hS.2.2.1
  have hN := nr_of hS.1.1
  have hBK := lb_bk (G := Z) hS.1 (fun _ _ => rfl)
  have hR9 := lb_rel0 (G := Z) hS.1.1 (fun _ _ => rfl)
  obtain ⟨hx, hb, hmaxL, hown, hts⟩ := id X.1
  refine lv_iload hx hb dL_law_104 (lv_at hl 0 rfl) ?_
  refine lv_bipush (v := nI 58) hx hb dL_law_106 (by decide) ?_
  refine n_icmp_ge (tgt := 267) hx hb (by omega) (by omega) dL_law_108 (by decide) (fun c => absurd hcj (by omega)) (fun _ => ?_)
  refine lv_iload hx hb dL_law_111 (lv_at hl 1 rfl) ?_
  refine b_if_eq (tgt := 267) hx hb dL_law_113 (by decide) (fun c => (Bool.noConfusion c)) (fun _ => ?_)
  refine lv_aload_n hx hb dL_law_116 rfl (lv_at hl 3 rfl) ?_
  refine lv_aload_n hx hb dL_law_117 rfl (lv_at hl 2 rfl) ?_
  refine lv_iconst (v := nI 4) hx hb dL_law_118 (by decide) ?_
  refine lv_iload hx hb dL_law_119 (lv_at hl 0 rfl) ?_
  refine n_imul hx hb dL_law_121 ?_
  refine lv_aload_n hx hb dL_law_122 rfl (lv_at hl 4 rfl) ?_
  refine lv_aload_n hx hb dL_law_123 rfl (lv_at hl 5 rfl) ?_
  refine lv_aload hx hb dL_law_124 (lv_at hl 6 rfl) ?_
  refine lv_aload hx hb dL_law_126 (lv_at hl 7 rfl) ?_
  refine lv_aload hx hb dL_law_128 (lv_at hl 8 rfl) ?_
  refine lv_aload hx hb dL_law_130 (lv_at hl 9 rfl) ?_
  refine lv_aload hx hb dL_law_132 (lv_at hl 10 rfl) ?_
  refine lv_aload hx hb dL_law_134 (lv_at hl 11 rfl) ?_
  refine lv_aload hx hb dL_law_136 (lv_at hl 12 rfl) ?_
  refine g_doneI X h (x_runB (rm := rmK 14 470 5 63) X hXS h (m_L_isDone Z hL hst hW hG2 V acts z n m t ac mcs cn hS hcn8 b L xs hL60 (4 * cj) (by omega) _) F_L_isDone q769 q770 rfl rfl rfl (Nat.le_trans (by decide) hR1) (Nat.le_trans (by decide) hR2) ⟨by omega, by omega⟩ hl.1 (Nat.le_of_ble_eq_true rfl) dL_law_138 rfl) (fun r9 u9 H locs hP h => ?_)
  obtain ⟨ad1, Ks1, st1⟩ := u9
  obtain ⟨hr9, gm1, Z1, hNY, hAE, hu⟩ := hP
  rw [hr9]
  have hAE : AEq ad ad1 := hAE
  have hNY : NY (cn + 1) gm1 Ks1 Z1 := hNY
  have h : Sx D A ad1 Ks1 (lay tc ad1 gm1 dz (LL Z1)) s H locs := h.congr (fun k _ => congrFun (show st1 = lay tc ad1 gm1 dz (LL Z1) from hu) k)
  have ea0 := hAE 0 (by decide)
  have ea35 := hAE 35 (by decide)
  have ea37 := hAE 37 (by decide)
  have ea39 := hAE 39 (by decide)
  have ea40 := hAE 40 (by decide)
  have ea41 := hAE 41 (by decide)
  have ea42 := hAE 42 (by decide)
  have ea43 := hAE 43 (by decide)
  have ea44 := hAE 44 (by decide)
  have ea45 := hAE 45 (by decide)
  rw [← ea0, ← ea35, ← ea37, ← ea39, ← ea40, ← ea41, ← ea42, ← ea43, ← ea44, ← ea45] at hl
  refine b_if_eq (tgt := 192) hx hb dL_law_141 (by decide) (fun c => (Bool.noConfusion c)) (fun _ => ?_)
  exact kk ad1 Ks1 gm1 Z1 H locs ls hNY hAE h (lv_sub hl [0, 1, 2, 3, 4, 5, 6, 7, 8, 9, 10, 11, 12] rfl)

set_option maxHeartbeats 4000000 in
set_option maxRecDepth 100000 in
theorem lw_2 (X : Cx p s mth args meth c cL_law yL_law.cls 14 D tc dz A) (hR1 : 15 ≤ R.frames) (hR2 : 525 ≤ R.locals) (hcR : cells + 0 ≤ R.cells) (hsR : slots + 0 ≤ R.slots) (hL : LV gm Ks) (hst : l.stackTraces = false) (hW : LW gm Ks) (hG2 : GM2 gm) (Z : Mem) (V : Nat → BS) (acts : Nat → Act) (z n m t : Nat) (ac mcs : Nat → Nat) (cn : Nat) (hS : LWS Z gm V acts z n m t ac mcs cn) (hcn : cn < 59) (b : Nat) (L : Nat) (xs : Nat → Int32) (hXS : XS A b L xs s) (hL60 : L ≤ 260) (cj : Nat) (hcj : cj < 58) (h : Sx D A ad Ks (lay tc ad gm dz (LL Z)) s H locs) (hl : lv_has ls 14 [(12, .int (nI cj)), (11, .int (bI true)), (0, .ref b), (1, .ref (ad (0, 0, 0, 0))), (2, .ref (ad (35, 0, 0, 0))), (3, .ref (ad (37, 0, 0, 0))), (4, .ref (ad (39, 0, 0, 0))), (5, .ref (ad (43, 0, 0, 0))), (6, .ref (ad (44, 0, 0, 0))), (7, .ref (ad (41, 0, 0, 0))), (8, .ref (ad (42, 0, 0, 0))), (9, .ref (ad (40, 0, 0, 0))), (10, .ref (ad (45, 0, 0, 0)))])
    (kk : ∀ (H1 : Heap) (locs1 : List Loc) (ls1 : Array Slot), Sx D A ad Ks (lay tc ad gm dz (LL Z)) s H1 locs1 → lv_has ls1 14 [(13, .int (nI 0)), (12, .int (nI cj)), (11, .int (bI true)), (0, .ref b), (1, .ref (ad (0, 0, 0, 0))), (2, .ref (ad (35, 0, 0, 0))), (3, .ref (ad (37, 0, 0, 0))), (4, .ref (ad (39, 0, 0, 0))), (5, .ref (ad (43, 0, 0, 0))), (6, .ref (ad (44, 0, 0, 0))), (7, .ref (ad (41, 0, 0, 0))), (8, .ref (ad (42, 0, 0, 0))), (9, .ref (ad (40, 0, 0, 0))), (10, .ref (ad (45, 0, 0, 0)))] → W p l e R s mth args below meth c H1 locs1 cells slots Q (F0 mth 198 ls1 [])) : W p l e R s mth args below meth c H locs cells slots Q (F0 mth 144 ls []) := by
  have hok := hS.2.1
  have hn2 := hS.2.2.1
  have hN := nr_of hS.1.1
  have hBK := lb_bk (G := Z) hS.1 (fun _ _ => rfl)
  have hR9 := lb_rel0 (G := Z) hS.1.1 (fun _ _ => rfl)
  obtain ⟨hx, hb, hmaxL, hown, hts⟩ := id X.1
  refine lv_aload_n hx hb dL_law_144 rfl (lv_at hl 3 rfl) ?_
  refine lv_aload_n hx hb dL_law_145 rfl (lv_at hl 4 rfl) ?_
  refine lv_aload hx hb dL_law_146 (lv_at hl 7 rfl) ?_
  refine lv_aload hx hb dL_law_148 (lv_at hl 8 rfl) ?_
  refine lv_aload hx hb dL_law_150 (lv_at hl 9 rfl) ?_
  refine lv_aload hx hb dL_law_152 (lv_at hl 10 rfl) ?_
  refine lv_aload hx hb dL_law_154 (lv_at hl 11 rfl) ?_
  refine lv_aload hx hb dL_law_156 (lv_at hl 12 rfl) ?_
  refine lv_aload_n hx hb dL_law_158 rfl (lv_at hl 2 rfl) ?_
  refine lv_iconst (v := nI 4) hx hb dL_law_159 (by decide) ?_
  refine lv_iload hx hb dL_law_160 (lv_at hl 0 rfl) ?_
  refine n_imul hx hb dL_law_162 ?_
  refine lv_iconst (v := nI 1) hx hb dL_law_163 (by decide) ?_
  refine n_iadd hx hb dL_law_164 ?_
  refine lv_bipush (v := nI 6) hx hb dL_law_165 (by decide) ?_
  refine x_part16 X hXS h hL60 (by omega) (by decide) (by decide) q372 q373 (Nat.le_trans (by decide) hR1) (Nat.le_trans (by decide) hR2) (by omega) (by omega) hl.1 (Nat.le_of_ble_eq_true rfl) dL_law_167 (fun pa H locs h_pa h => ?_)
  refine lv_aload_n hx hb dL_law_170 rfl (lv_at hl 2 rfl) ?_
  refine lv_iconst (v := nI 4) hx hb dL_law_171 (by decide) ?_
  refine lv_iload hx hb dL_law_172 (lv_at hl 0 rfl) ?_
  refine n_imul hx hb dL_law_174 ?_
  refine lv_iconst (v := nI 2) hx hb dL_law_175 (by decide) ?_
  refine n_iadd hx hb dL_law_176 ?_
  refine lv_bipush (v := nI 6) hx hb dL_law_177 (by decide) ?_
  refine x_part16 X hXS h hL60 (by omega) (by decide) (by decide) q372 q373 (Nat.le_trans (by decide) hR1) (Nat.le_trans (by decide) hR2) (by omega) (by omega) hl.1 (Nat.le_of_ble_eq_true rfl) dL_law_179 (fun pb H locs h_pb h => ?_)
  refine x_doneI X h (x_runSR X h (m_L_isPair Z hL hst hW hG2 V acts z n m t ac mcs cn hS hcn pa pb h_pa h_pb _) F_L_isPair q763 q764 rfl rfl rfl (Nat.le_trans (by decide) hR1) (Nat.le_trans (by decide) hR2) ⟨by omega, by omega⟩ hl.1 (Nat.le_of_ble_eq_true rfl) dL_law_182 rfl) (fun H locs h => ?_)
  refine b_if_eq (tgt := 192) hx hb dL_law_185 (by decide) (fun c => (Bool.noConfusion c)) (fun _ => ?_)
  refine lv_iconst (v := nI 1) hx hb dL_law_188 (by decide) ?_
  refine lv_goto (tgt := 193) hx hb dL_law_189 (by decide) ?_
  rw [show nI 1 = bI true from rfl]
  refine lv_istore (lv' := [(11, .int (bI true)), (12, .int (nI cj)), (0, .ref b), (1, .ref (ad (0, 0, 0, 0))), (2, .ref (ad (35, 0, 0, 0))), (3, .ref (ad (37, 0, 0, 0))), (4, .ref (ad (39, 0, 0, 0))), (5, .ref (ad (43, 0, 0, 0))), (6, .ref (ad (44, 0, 0, 0))), (7, .ref (ad (41, 0, 0, 0))), (8, .ref (ad (42, 0, 0, 0))), (9, .ref (ad (40, 0, 0, 0))), (10, .ref (ad (45, 0, 0, 0)))]) hx hb dL_law_193 hl (by decide) rfl (fun ls hl => ?_)
  refine lv_iconst (v := nI 0) hx hb dL_law_195 (by decide) ?_
  refine lv_istore (lv' := [(13, .int (nI 0)), (11, .int (bI true)), (12, .int (nI cj)), (0, .ref b), (1, .ref (ad (0, 0, 0, 0))), (2, .ref (ad (35, 0, 0, 0))), (3, .ref (ad (37, 0, 0, 0))), (4, .ref (ad (39, 0, 0, 0))), (5, .ref (ad (43, 0, 0, 0))), (6, .ref (ad (44, 0, 0, 0))), (7, .ref (ad (41, 0, 0, 0))), (8, .ref (ad (42, 0, 0, 0))), (9, .ref (ad (40, 0, 0, 0))), (10, .ref (ad (45, 0, 0, 0)))]) hx hb dL_law_196 hl (by decide) rfl (fun ls hl => ?_)
  exact kk H locs ls h (lv_sub hl [0, 2, 1, 3, 4, 5, 6, 7, 8, 9, 10, 11, 12, 13] rfl)

set_option maxHeartbeats 4000000 in
set_option maxRecDepth 100000 in
theorem lw_dA (X : Cx p s mth args meth c cL_law yL_law.cls 14 D tc dz A) (hR1 : 15 ≤ R.frames) (hR2 : 525 ≤ R.locals) (hcR : cells + 110 ≤ R.cells) (hsR : slots + 42280 ≤ R.slots) (hL : LV gm Ks) (hst : l.stackTraces = false) (hW : LW gm Ks) (hG2 : GM2 gm) (Z : Mem) (V : Nat → BS) (acts : Nat → Act) (z n m t : Nat) (ac mcs : Nat → Nat) (cn : Nat) (hS : LWS Z gm V acts z n m t ac mcs cn) (hcn : cn < 59) (b : Nat) (cj : Nat) (hcj : cj < 58) (dd : Nat) (hdd : dd < 6) (hfd : dd = cj % 6) (h : Sx D A ad Ks (lay tc ad gm dz (LL Z)) s H locs) (hl : lv_has ls 14 [(13, .int (nI dd)), (12, .int (nI cj)), (11, .int (bI true)), (0, .ref b), (1, .ref (ad (0, 0, 0, 0))), (2, .ref (ad (35, 0, 0, 0))), (3, .ref (ad (37, 0, 0, 0))), (4, .ref (ad (39, 0, 0, 0))), (5, .ref (ad (43, 0, 0, 0))), (6, .ref (ad (44, 0, 0, 0))), (7, .ref (ad (41, 0, 0, 0))), (8, .ref (ad (42, 0, 0, 0))), (9, .ref (ad (40, 0, 0, 0))), (10, .ref (ad (45, 0, 0, 0)))])
    (kk : ∀ (ad1 : KN → Nat) (Ks1 : List KN) (gm1 : GM) (Z1 : Mem) (H1 : Heap) (locs1 : List Loc) (ls1 : Array Slot), NY (cn) gm1 Ks1 Z1 → AEq ad ad1 → Sx D A ad1 Ks1 (lay tc ad1 gm1 dz (LL Z1)) s H1 locs1 → lv_has ls1 14 [(13, .int (nI (dd + 1))), (12, .int (nI cj)), (11, .int (bI true)), (0, .ref b), (1, .ref (ad1 (0, 0, 0, 0))), (2, .ref (ad1 (35, 0, 0, 0))), (3, .ref (ad1 (37, 0, 0, 0))), (4, .ref (ad1 (39, 0, 0, 0))), (5, .ref (ad1 (43, 0, 0, 0))), (6, .ref (ad1 (44, 0, 0, 0))), (7, .ref (ad1 (41, 0, 0, 0))), (8, .ref (ad1 (42, 0, 0, 0))), (9, .ref (ad1 (40, 0, 0, 0))), (10, .ref (ad1 (45, 0, 0, 0)))] → W p l e R s mth args below meth c H1 locs1 (cells + 110) (slots + 42280) Q (F0 mth 198 ls1 [])) : W p l e R s mth args below meth c H locs cells slots Q (F0 mth 198 ls []) := by
  have hok := hS.2.1
  have hn2 := hS.2.2.1
  have hN := nr_of hS.1.1
  have hBK := lb_bk (G := Z) hS.1 (fun _ _ => rfl)
  have hR9 := lb_rel0 (G := Z) hS.1.1 (fun _ _ => rfl)
  have hva := va_le (v := 102) (fd := cj / 6 % 8) (q := 0) (q2 := 9) (by decide)
  have hv1 : va 102 (cj / 6 % 8) 0 ≤ 102 := by unfold va; split <;> omega
  have hv2 : va 42232 (cj / 6 % 8) 0 ≤ 42232 := by unfold va; split <;> omega
  obtain ⟨hx, hb, hmaxL, hown, hts⟩ := id X.1
  refine lv_iload hx hb dL_law_198 (lv_at hl 0 rfl) ?_
  refine lv_bipush (v := nI 6) hx hb dL_law_200 (by decide) ?_
  refine n_icmp_ge (tgt := 261) hx hb (by omega) (by omega) dL_law_202 (by decide) (fun c => absurd hdd (by omega)) (fun _ => ?_)
  refine lv_iload hx hb dL_law_205 (lv_at hl 2 rfl) ?_
  refine b_if_eq (tgt := 261) hx hb dL_law_207 (by decide) (fun c => (Bool.noConfusion c)) (fun _ => ?_)
  refine lv_aload_n hx hb dL_law_210 rfl (lv_at hl 4 rfl) ?_
  refine lv_aload_n hx hb dL_law_211 rfl (lv_at hl 5 rfl) ?_
  refine lv_aload_n hx hb dL_law_212 rfl (lv_at hl 6 rfl) ?_
  refine lv_aload hx hb dL_law_213 (lv_at hl 8 rfl) ?_
  refine lv_aload hx hb dL_law_215 (lv_at hl 9 rfl) ?_
  refine lv_aload hx hb dL_law_217 (lv_at hl 10 rfl) ?_
  refine lv_aload hx hb dL_law_219 (lv_at hl 11 rfl) ?_
  refine lv_aload hx hb dL_law_221 (lv_at hl 12 rfl) ?_
  refine lv_aload hx hb dL_law_223 (lv_at hl 13 rfl) ?_
  refine lv_iload hx hb dL_law_225 (lv_at hl 0 rfl) ?_
  refine lv_iload hx hb dL_law_227 (lv_at hl 0 rfl) ?_
  refine lv_iload hx hb dL_law_229 (lv_at hl 1 rfl) ?_
  refine lv_bipush (v := nI 6) hx hb dL_law_231 (by decide) ?_
  refine n_irem hx hb (by omega) (by omega) (by omega) dL_law_233 ?_
  refine n_icmp_ne (tgt := 248) hx hb (by omega) (by omega) dL_law_234 (by decide) (fun c => absurd hfd c) (fun _ => ?_)
  refine lv_iload hx hb dL_law_237 (lv_at hl 1 rfl) ?_
  refine lv_bipush (v := nI 6) hx hb dL_law_239 (by decide) ?_
  refine n_idiv hx hb (by omega) (by omega) (by omega) dL_law_241 ?_
  refine lv_bipush (v := nI 8) hx hb dL_law_242 (by decide) ?_
  refine n_irem hx hb (by omega) (by omega) (by omega) dL_law_244 ?_
  refine lv_goto (tgt := 250) hx hb dL_law_245 (by decide) ?_
  refine g_doneI X h (x_runSR X h (m_L_isDevice Z hst V acts z n m t ac mcs cn ⟨hL, hW, hG2, hS, fun _ _ => rfl⟩ hcn dd (cj / 6 % 8) hdd (by omega) _) F_L_isDevice q735 q736 rfl rfl rfl (Nat.le_trans (Nat.le_of_ble_eq_true rfl) hR1) (Nat.le_trans (Nat.le_of_ble_eq_true rfl) hR2) ⟨by omega, by omega⟩ hl.1 (Nat.le_of_ble_eq_true rfl) dL_law_250 rfl) (fun r9 u9 H locs hP h => ?_)
  obtain ⟨ad1, Ks1, st1⟩ := u9
  obtain ⟨hr9, gm1, Z1, hNX, hAE, hu⟩ := hP
  rw [hr9]
  have hAE : AEq ad ad1 := hAE
  have hNY : NY cn gm1 Ks1 Z1 := ⟨hNX.1, hNX.2.1, hNX.2.2.1, V, acts, z, n, m, t, ac, mcs, hNX.2.2.2.1⟩
  have h : Sx D A ad1 Ks1 (lay tc ad1 gm1 dz (LL Z1)) s H locs := h.congr (fun k _ => congrFun (show st1 = lay tc ad1 gm1 dz (LL Z1) from hu) k)
  have ea0 := hAE 0 (by decide)
  have ea35 := hAE 35 (by decide)
  have ea37 := hAE 37 (by decide)
  have ea39 := hAE 39 (by decide)
  have ea40 := hAE 40 (by decide)
  have ea41 := hAE 41 (by decide)
  have ea42 := hAE 42 (by decide)
  have ea43 := hAE 43 (by decide)
  have ea44 := hAE 44 (by decide)
  have ea45 := hAE 45 (by decide)
  rw [← ea0, ← ea35, ← ea37, ← ea39, ← ea40, ← ea41, ← ea42, ← ea43, ← ea44, ← ea45] at hl
  refine W.widen (k := cells + 110) (n := slots + 42280) (by omega) (by omega) ?_
  refine lv_istore (lv' := [(11, .int (bI true)), (13, .int (nI dd)), (12, .int (nI cj)), (0, .ref b), (1, .ref (ad1 (0, 0, 0, 0))), (2, .ref (ad1 (35, 0, 0, 0))), (3, .ref (ad1 (37, 0, 0, 0))), (4, .ref (ad1 (39, 0, 0, 0))), (5, .ref (ad1 (43, 0, 0, 0))), (6, .ref (ad1 (44, 0, 0, 0))), (7, .ref (ad1 (41, 0, 0, 0))), (8, .ref (ad1 (42, 0, 0, 0))), (9, .ref (ad1 (40, 0, 0, 0))), (10, .ref (ad1 (45, 0, 0, 0)))]) hx hb dL_law_253 hl (by decide) rfl (fun ls hl => ?_)
  refine n_iinc (j := dd) (n := 1) (lv' := [(13, .int (nI (dd + 1))), (11, .int (bI true)), (12, .int (nI cj)), (0, .ref b), (1, .ref (ad1 (0, 0, 0, 0))), (2, .ref (ad1 (35, 0, 0, 0))), (3, .ref (ad1 (37, 0, 0, 0))), (4, .ref (ad1 (39, 0, 0, 0))), (5, .ref (ad1 (43, 0, 0, 0))), (6, .ref (ad1 (44, 0, 0, 0))), (7, .ref (ad1 (41, 0, 0, 0))), (8, .ref (ad1 (42, 0, 0, 0))), (9, .ref (ad1 (40, 0, 0, 0))), (10, .ref (ad1 (45, 0, 0, 0)))]) hx hb dL_law_255 hl (k := 1) rfl (by decide) (by decide) rfl (fun ls hl => ?_)
  refine lv_goto (tgt := 198) hx hb dL_law_258 (by decide) ?_
  exact kk ad1 Ks1 gm1 Z1 H locs ls hNY hAE h (lv_sub hl [0, 2, 1, 3, 4, 5, 6, 7, 8, 9, 10, 11, 12, 13] rfl)

set_option maxHeartbeats 4000000 in
set_option maxRecDepth 100000 in
theorem lw_dB (X : Cx p s mth args meth c cL_law yL_law.cls 14 D tc dz A) (hR1 : 15 ≤ R.frames) (hR2 : 525 ≤ R.locals) (hcR : cells + 8 ≤ R.cells) (hsR : slots + 48 ≤ R.slots) (hL : LV gm Ks) (hst : l.stackTraces = false) (hW : LW gm Ks) (hG2 : GM2 gm) (Z : Mem) (V : Nat → BS) (acts : Nat → Act) (z n m t : Nat) (ac mcs : Nat → Nat) (cn : Nat) (hS : LWS Z gm V acts z n m t ac mcs cn) (hcn : cn < 59) (b : Nat) (cj : Nat) (hcj : cj < 58) (dd : Nat) (hdd : dd < 6) (hfd : ¬ dd = cj % 6) (h : Sx D A ad Ks (lay tc ad gm dz (LL Z)) s H locs) (hl : lv_has ls 14 [(13, .int (nI dd)), (12, .int (nI cj)), (11, .int (bI true)), (0, .ref b), (1, .ref (ad (0, 0, 0, 0))), (2, .ref (ad (35, 0, 0, 0))), (3, .ref (ad (37, 0, 0, 0))), (4, .ref (ad (39, 0, 0, 0))), (5, .ref (ad (43, 0, 0, 0))), (6, .ref (ad (44, 0, 0, 0))), (7, .ref (ad (41, 0, 0, 0))), (8, .ref (ad (42, 0, 0, 0))), (9, .ref (ad (40, 0, 0, 0))), (10, .ref (ad (45, 0, 0, 0)))])
    (kk : ∀ (ad1 : KN → Nat) (Ks1 : List KN) (gm1 : GM) (Z1 : Mem) (H1 : Heap) (locs1 : List Loc) (ls1 : Array Slot), NY (cn) gm1 Ks1 Z1 → AEq ad ad1 → Sx D A ad1 Ks1 (lay tc ad1 gm1 dz (LL Z1)) s H1 locs1 → lv_has ls1 14 [(13, .int (nI (dd + 1))), (12, .int (nI cj)), (11, .int (bI true)), (0, .ref b), (1, .ref (ad1 (0, 0, 0, 0))), (2, .ref (ad1 (35, 0, 0, 0))), (3, .ref (ad1 (37, 0, 0, 0))), (4, .ref (ad1 (39, 0, 0, 0))), (5, .ref (ad1 (43, 0, 0, 0))), (6, .ref (ad1 (44, 0, 0, 0))), (7, .ref (ad1 (41, 0, 0, 0))), (8, .ref (ad1 (42, 0, 0, 0))), (9, .ref (ad1 (40, 0, 0, 0))), (10, .ref (ad1 (45, 0, 0, 0)))] → W p l e R s mth args below meth c H1 locs1 (cells + 8) (slots + 48) Q (F0 mth 198 ls1 [])) : W p l e R s mth args below meth c H locs cells slots Q (F0 mth 198 ls []) := by
  have hok := hS.2.1
  have hn2 := hS.2.2.1
  have hN := nr_of hS.1.1
  have hBK := lb_bk (G := Z) hS.1 (fun _ _ => rfl)
  have hR9 := lb_rel0 (G := Z) hS.1.1 (fun _ _ => rfl)
  have hva := va_le (v := 102) (fd := 8) (q := 0) (q2 := 9) (by decide)
  have hv1 : va 102 (8) 0 ≤ 0 := by unfold va; split <;> omega
  have hv2 : va 42232 (8) 0 ≤ 0 := by unfold va; split <;> omega
  obtain ⟨hx, hb, hmaxL, hown, hts⟩ := id X.1
  refine lv_iload hx hb dL_law_198 (lv_at hl 0 rfl) ?_
  refine lv_bipush (v := nI 6) hx hb dL_law_200 (by decide) ?_
  refine n_icmp_ge (tgt := 261) hx hb (by omega) (by omega) dL_law_202 (by decide) (fun c => absurd hdd (by omega)) (fun _ => ?_)
  refine lv_iload hx hb dL_law_205 (lv_at hl 2 rfl) ?_
  refine b_if_eq (tgt := 261) hx hb dL_law_207 (by decide) (fun c => (Bool.noConfusion c)) (fun _ => ?_)
  refine lv_aload_n hx hb dL_law_210 rfl (lv_at hl 4 rfl) ?_
  refine lv_aload_n hx hb dL_law_211 rfl (lv_at hl 5 rfl) ?_
  refine lv_aload_n hx hb dL_law_212 rfl (lv_at hl 6 rfl) ?_
  refine lv_aload hx hb dL_law_213 (lv_at hl 8 rfl) ?_
  refine lv_aload hx hb dL_law_215 (lv_at hl 9 rfl) ?_
  refine lv_aload hx hb dL_law_217 (lv_at hl 10 rfl) ?_
  refine lv_aload hx hb dL_law_219 (lv_at hl 11 rfl) ?_
  refine lv_aload hx hb dL_law_221 (lv_at hl 12 rfl) ?_
  refine lv_aload hx hb dL_law_223 (lv_at hl 13 rfl) ?_
  refine lv_iload hx hb dL_law_225 (lv_at hl 0 rfl) ?_
  refine lv_iload hx hb dL_law_227 (lv_at hl 0 rfl) ?_
  refine lv_iload hx hb dL_law_229 (lv_at hl 1 rfl) ?_
  refine lv_bipush (v := nI 6) hx hb dL_law_231 (by decide) ?_
  refine n_irem hx hb (by omega) (by omega) (by omega) dL_law_233 ?_
  refine n_icmp_ne (tgt := 248) hx hb (by omega) (by omega) dL_law_234 (by decide) (fun _ => ?_) (fun c => absurd c hfd)
  refine lv_bipush (v := nI 8) hx hb dL_law_248 (by decide) ?_
  refine g_doneI X h (x_runSR X h (m_L_isDevice Z hst V acts z n m t ac mcs cn ⟨hL, hW, hG2, hS, fun _ _ => rfl⟩ hcn dd (8) hdd (by omega) _) F_L_isDevice q735 q736 rfl rfl rfl (Nat.le_trans (Nat.le_of_ble_eq_true rfl) hR1) (Nat.le_trans (Nat.le_of_ble_eq_true rfl) hR2) ⟨by omega, by omega⟩ hl.1 (Nat.le_of_ble_eq_true rfl) dL_law_250 rfl) (fun r9 u9 H locs hP h => ?_)
  obtain ⟨ad1, Ks1, st1⟩ := u9
  obtain ⟨hr9, gm1, Z1, hNX, hAE, hu⟩ := hP
  rw [hr9]
  have hAE : AEq ad ad1 := hAE
  have hNY : NY cn gm1 Ks1 Z1 := ⟨hNX.1, hNX.2.1, hNX.2.2.1, V, acts, z, n, m, t, ac, mcs, hNX.2.2.2.1⟩
  have h : Sx D A ad1 Ks1 (lay tc ad1 gm1 dz (LL Z1)) s H locs := h.congr (fun k _ => congrFun (show st1 = lay tc ad1 gm1 dz (LL Z1) from hu) k)
  have ea0 := hAE 0 (by decide)
  have ea35 := hAE 35 (by decide)
  have ea37 := hAE 37 (by decide)
  have ea39 := hAE 39 (by decide)
  have ea40 := hAE 40 (by decide)
  have ea41 := hAE 41 (by decide)
  have ea42 := hAE 42 (by decide)
  have ea43 := hAE 43 (by decide)
  have ea44 := hAE 44 (by decide)
  have ea45 := hAE 45 (by decide)
  rw [← ea0, ← ea35, ← ea37, ← ea39, ← ea40, ← ea41, ← ea42, ← ea43, ← ea44, ← ea45] at hl
  refine W.widen (k := cells + 8) (n := slots + 48) (by omega) (by omega) ?_
  refine lv_istore (lv' := [(11, .int (bI true)), (13, .int (nI dd)), (12, .int (nI cj)), (0, .ref b), (1, .ref (ad1 (0, 0, 0, 0))), (2, .ref (ad1 (35, 0, 0, 0))), (3, .ref (ad1 (37, 0, 0, 0))), (4, .ref (ad1 (39, 0, 0, 0))), (5, .ref (ad1 (43, 0, 0, 0))), (6, .ref (ad1 (44, 0, 0, 0))), (7, .ref (ad1 (41, 0, 0, 0))), (8, .ref (ad1 (42, 0, 0, 0))), (9, .ref (ad1 (40, 0, 0, 0))), (10, .ref (ad1 (45, 0, 0, 0)))]) hx hb dL_law_253 hl (by decide) rfl (fun ls hl => ?_)
  refine n_iinc (j := dd) (n := 1) (lv' := [(13, .int (nI (dd + 1))), (11, .int (bI true)), (12, .int (nI cj)), (0, .ref b), (1, .ref (ad1 (0, 0, 0, 0))), (2, .ref (ad1 (35, 0, 0, 0))), (3, .ref (ad1 (37, 0, 0, 0))), (4, .ref (ad1 (39, 0, 0, 0))), (5, .ref (ad1 (43, 0, 0, 0))), (6, .ref (ad1 (44, 0, 0, 0))), (7, .ref (ad1 (41, 0, 0, 0))), (8, .ref (ad1 (42, 0, 0, 0))), (9, .ref (ad1 (40, 0, 0, 0))), (10, .ref (ad1 (45, 0, 0, 0)))]) hx hb dL_law_255 hl (k := 1) rfl (by decide) (by decide) rfl (fun ls hl => ?_)
  refine lv_goto (tgt := 198) hx hb dL_law_258 (by decide) ?_
  exact kk ad1 Ks1 gm1 Z1 H locs ls hNY hAE h (lv_sub hl [0, 2, 1, 3, 4, 5, 6, 7, 8, 9, 10, 11, 12, 13] rfl)

set_option maxHeartbeats 4000000 in
set_option maxRecDepth 100000 in
theorem lw_3 (X : Cx p s mth args meth c cL_law yL_law.cls 14 D tc dz A) (hR1 : 15 ≤ R.frames) (hR2 : 525 ≤ R.locals) (hcR : cells + 0 ≤ R.cells) (hsR : slots + 0 ≤ R.slots) (hL : LV gm Ks) (hst : l.stackTraces = false) (hW : LW gm Ks) (hG2 : GM2 gm) (Z : Mem) (V : Nat → BS) (acts : Nat → Act) (z n m t : Nat) (ac mcs : Nat → Nat) (cn : Nat) (hS : LWS Z gm V acts z n m t ac mcs cn) (hcn : cn < 59) (b : Nat) (cj : Nat) (hcj : cj < 58) (h : Sx D A ad Ks (lay tc ad gm dz (LL Z)) s H locs) (hl : lv_has ls 14 [(13, .int (nI 6)), (12, .int (nI cj)), (11, .int (bI true)), (0, .ref b), (1, .ref (ad (0, 0, 0, 0))), (2, .ref (ad (35, 0, 0, 0))), (3, .ref (ad (37, 0, 0, 0))), (4, .ref (ad (39, 0, 0, 0))), (5, .ref (ad (43, 0, 0, 0))), (6, .ref (ad (44, 0, 0, 0))), (7, .ref (ad (41, 0, 0, 0))), (8, .ref (ad (42, 0, 0, 0))), (9, .ref (ad (40, 0, 0, 0))), (10, .ref (ad (45, 0, 0, 0)))])
    (kk : ∀ (H1 : Heap) (locs1 : List Loc) (ls1 : Array Slot), Sx D A ad Ks (lay tc ad gm dz (LL Z)) s H1 locs1 → lv_has ls1 14 [(12, .int (nI (cj + 1))), (11, .int (bI true)), (0, .ref b), (1, .ref (ad (0, 0, 0, 0))), (2, .ref (ad (35, 0, 0, 0))), (3, .ref (ad (37, 0, 0, 0))), (4, .ref (ad (39, 0, 0, 0))), (5, .ref (ad (43, 0, 0, 0))), (6, .ref (ad (44, 0, 0, 0))), (7, .ref (ad (41, 0, 0, 0))), (8, .ref (ad (42, 0, 0, 0))), (9, .ref (ad (40, 0, 0, 0))), (10, .ref (ad (45, 0, 0, 0)))] → W p l e R s mth args below meth c H1 locs1 cells slots Q (F0 mth 104 ls1 [])) : W p l e R s mth args below meth c H locs cells slots Q (F0 mth 198 ls []) := by
  have hok := hS.2.1
  have hn2 := hS.2.2.1
  have hN := nr_of hS.1.1
  have hBK := lb_bk (G := Z) hS.1 (fun _ _ => rfl)
  have hR9 := lb_rel0 (G := Z) hS.1.1 (fun _ _ => rfl)
  obtain ⟨hx, hb, hmaxL, hown, hts⟩ := id X.1
  refine lv_iload hx hb dL_law_198 (lv_at hl 0 rfl) ?_
  refine lv_bipush (v := nI 6) hx hb dL_law_200 (by decide) ?_
  refine lv_icmp_ge (tgt := 261) hx hb dL_law_202 (by decide) (fun _ => ?_) (fun c => absurd c (by decide))
  refine n_iinc (j := cj) (n := 1) (lv' := [(12, .int (nI (cj + 1))), (13, .int (nI 6)), (11, .int (bI true)), (0, .ref b), (1, .ref (ad (0, 0, 0, 0))), (2, .ref (ad (35, 0, 0, 0))), (3, .ref (ad (37, 0, 0, 0))), (4, .ref (ad (39, 0, 0, 0))), (5, .ref (ad (43, 0, 0, 0))), (6, .ref (ad (44, 0, 0, 0))), (7, .ref (ad (41, 0, 0, 0))), (8, .ref (ad (42, 0, 0, 0))), (9, .ref (ad (40, 0, 0, 0))), (10, .ref (ad (45, 0, 0, 0)))]) hx hb dL_law_261 hl (k := 1) rfl (by decide) (by decide) rfl (fun ls hl => ?_)
  refine lv_goto (tgt := 104) hx hb dL_law_264 (by decide) ?_
  exact kk H locs ls h (lv_sub hl [0, 2, 3, 4, 5, 6, 7, 8, 9, 10, 11, 12, 13] rfl)

set_option maxHeartbeats 4000000 in
set_option maxRecDepth 100000 in
theorem lw_4 (X : Cx p s mth args meth c cL_law yL_law.cls 14 D tc dz A) (hR1 : 15 ≤ R.frames) (hR2 : 525 ≤ R.locals) (hcR : cells + 9 ≤ R.cells) (hsR : slots + 54 ≤ R.slots) (hL : LV gm Ks) (hst : l.stackTraces = false) (hW : LW gm Ks) (hG2 : GM2 gm) (Z : Mem) (V : Nat → BS) (acts : Nat → Act) (z n m t : Nat) (ac mcs : Nat → Nat) (cn : Nat) (hS : LWS Z gm V acts z n m t ac mcs cn) (hcn : cn < 59) (b : Nat) (h : Sx D A ad Ks (lay tc ad gm dz (LL Z)) s H locs) (hl : lv_has ls 14 [(12, .int (nI 58)), (11, .int (bI true)), (0, .ref b), (1, .ref (ad (0, 0, 0, 0))), (2, .ref (ad (35, 0, 0, 0))), (3, .ref (ad (37, 0, 0, 0))), (4, .ref (ad (39, 0, 0, 0))), (5, .ref (ad (43, 0, 0, 0))), (6, .ref (ad (44, 0, 0, 0))), (7, .ref (ad (41, 0, 0, 0))), (8, .ref (ad (42, 0, 0, 0))), (9, .ref (ad (40, 0, 0, 0))), (10, .ref (ad (45, 0, 0, 0)))])
    (kk : ∀ (H1 : Heap) (locs1 : List Loc) (ls1 : Array Slot), Sx D A ad Ks (lay tc ad gm dz (LL Z)) s H1 locs1 → W p l e R s mth args below meth c H1 locs1 (cells + 9) (slots + 54) Q (F0 mth 418 ls1 [.int 1])) : W p l e R s mth args below meth c H locs cells slots Q (F0 mth 104 ls []) := by
  have hok := hS.2.1
  have hn2 := hS.2.2.1
  have hN := nr_of hS.1.1
  have hBK := lb_bk (G := Z) hS.1 (fun _ _ => rfl)
  have hR9 := lb_rel0 (G := Z) hS.1.1 (fun _ _ => rfl)
  have hE10 : isEnt n (nI 10) = false := by
    have q9 : n = 0 ∨ n = 1 ∨ n = 2 := by omega
    rcases q9 with rfl | rfl | rfl <;> decide
  have hEm : isEnt n (-1) = false := if_pos (by decide)
  obtain ⟨hx, hb, hmaxL, hown, hts⟩ := id X.1
  refine lv_iload hx hb dL_law_104 (lv_at hl 0 rfl) ?_
  refine lv_bipush (v := nI 58) hx hb dL_law_106 (by decide) ?_
  refine lv_icmp_ge (tgt := 267) hx hb dL_law_108 (by decide) (fun _ => ?_) (fun c => absurd c (by decide))
  refine lv_iload hx hb dL_law_267 (lv_at hl 1 rfl) ?_
  refine b_if_eq (tgt := 417) hx hb dL_law_269 (by decide) (fun c => (Bool.noConfusion c)) (fun _ => ?_)
  refine lv_aload_n hx hb dL_law_272 rfl (lv_at hl 3 rfl) ?_
  refine lv_iconst (v := nI 0) hx hb dL_law_273 (by decide) ?_
  refine lv_iconst (v := (-1)) hx hb dL_law_274 (by decide) ?_
  refine lv_iconst (v := nI 0) hx hb dL_law_275 (by decide) ?_
  refine lv_iconst (v := nI 0) hx hb dL_law_276 (by decide) ?_
  refine lv_iconst (v := nI 0) hx hb dL_law_277 (by decide) ?_
  refine x_doneI X h (x_runSH (n := 6) X h (w_does_entry_I (LL Z) hL (lv := 9) (by decide) (-1) (nI 0) (nI 0) (nI 0) (x_X6_entry_1 (LL Z) hst hL hG2.ok n mcs hBK (-1) (by decide)) _) q378 q5 q376 q377 ⟨by decide, by decide, by decide +kernel⟩ rfl (Nat.le_trans (by decide) hR1) (Nat.le_trans (by decide) hR2) ⟨by omega, by omega⟩ hl.1 (Nat.le_of_ble_eq_true rfl) dL_law_278 rfl) (fun H locs h => ?_)
  refine lv_sipush (v := (-300)) hx hb dL_law_281 (by decide) ?_
  refine lv_icmp_ne (tgt := 417) hx hb dL_law_284 (by decide) (fun c => absurd rfl c) (fun _ => ?_)
  refine lv_aload_n hx hb dL_law_287 rfl (lv_at hl 3 rfl) ?_
  refine lv_iconst (v := nI 1) hx hb dL_law_288 (by decide) ?_
  refine lv_bipush (v := nI 6) hx hb dL_law_289 (by decide) ?_
  refine lv_iconst (v := nI 0) hx hb dL_law_291 (by decide) ?_
  refine lv_iconst (v := nI 0) hx hb dL_law_292 (by decide) ?_
  refine lv_iconst (v := nI 0) hx hb dL_law_293 (by decide) ?_
  refine x_doneI X h (x_runSH (n := 6) X h (w_does_tell_I (LL Z) hL (lv := 9) (by decide) (nI 6) (nI 0) (nI 0) (nI 0) (x_X6_tell_1 (LL Z) hst hL hG2.ok n mcs hBK (nI 6) (nI 0) (nI 0) (nI 0) (by unfold ckn; rw [show isDev (nI 6) = false by decide, Bool.false_and, Bool.false_and])) _) q378 q5 q376 q377 ⟨by decide, by decide, by decide +kernel⟩ rfl (Nat.le_trans (by decide) hR1) (Nat.le_trans (by decide) hR2) ⟨by omega, by omega⟩ hl.1 (Nat.le_of_ble_eq_true rfl) dL_law_294 rfl) (fun H locs h => ?_)
  refine lv_sipush (v := (-300)) hx hb dL_law_297 (by decide) ?_
  refine lv_icmp_ne (tgt := 417) hx hb dL_law_300 (by decide) (fun c => absurd rfl c) (fun _ => ?_)
  refine lv_aload_n hx hb dL_law_303 rfl (lv_at hl 3 rfl) ?_
  refine lv_iconst (v := nI 2) hx hb dL_law_304 (by decide) ?_
  refine lv_iconst (v := nI 0) hx hb dL_law_305 (by decide) ?_
  refine lv_bipush (v := nI 10) hx hb dL_law_306 (by decide) ?_
  refine lv_iconst (v := nI 0) hx hb dL_law_308 (by decide) ?_
  refine lv_iconst (v := nI 0) hx hb dL_law_309 (by decide) ?_
  refine x_doneI X h (x_runSH (n := 6) X h (w_does_delete_I (LL Z) hL (lv := 9) (by decide) (nI 0) (nI 10) (nI 0) (nI 0) (x_X6_delete_1 (LL Z) hst hL hG2.ok n mcs hBK (nI 0) (nI 10) (by unfold ckn; rw [hE10, Bool.false_and, Bool.and_false])) _) q378 q5 q376 q377 ⟨by decide, by decide, by decide +kernel⟩ rfl (Nat.le_trans (by decide) hR1) (Nat.le_trans (by decide) hR2) ⟨by omega, by omega⟩ hl.1 (Nat.le_of_ble_eq_true rfl) dL_law_310 rfl) (fun H locs h => ?_)
  refine lv_sipush (v := (-300)) hx hb dL_law_313 (by decide) ?_
  refine lv_icmp_ne (tgt := 417) hx hb dL_law_316 (by decide) (fun c => absurd rfl c) (fun _ => ?_)
  refine lv_aload_n hx hb dL_law_319 rfl (lv_at hl 3 rfl) ?_
  refine lv_iconst (v := nI 3) hx hb dL_law_320 (by decide) ?_
  refine lv_iconst (v := nI 0) hx hb dL_law_321 (by decide) ?_
  refine lv_iconst (v := (-1)) hx hb dL_law_322 (by decide) ?_
  refine lv_iconst (v := nI 0) hx hb dL_law_323 (by decide) ?_
  refine lv_iconst (v := nI 0) hx hb dL_law_324 (by decide) ?_
  refine x_doneI X h (x_runSH (n := 6) X h (w_does_share_I (LL Z) hL (lv := 9) (by decide) (nI 0) (-1) (nI 0) (nI 0) (x_X6_share_1 (LL Z) hst hL hG2.ok n mcs hBK (nI 0) (-1) (nI 0) (nI 0) (by unfold ckn; rw [hEm, Bool.false_and, Bool.and_false, Bool.false_and])) _) q378 q5 q376 q377 ⟨by decide, by decide, by decide +kernel⟩ rfl (Nat.le_trans (by decide) hR1) (Nat.le_trans (by decide) hR2) ⟨by omega, by omega⟩ hl.1 (Nat.le_of_ble_eq_true rfl) dL_law_325 rfl) (fun H locs h => ?_)
  refine lv_sipush (v := (-300)) hx hb dL_law_328 (by decide) ?_
  refine lv_icmp_ne (tgt := 417) hx hb dL_law_331 (by decide) (fun c => absurd rfl c) (fun _ => ?_)
  refine lv_aload_n hx hb dL_law_334 rfl (lv_at hl 3 rfl) ?_
  refine lv_iconst (v := nI 4) hx hb dL_law_335 (by decide) ?_
  refine lv_iconst (v := (-1)) hx hb dL_law_336 (by decide) ?_
  refine lv_iconst (v := nI 0) hx hb dL_law_337 (by decide) ?_
  refine lv_iconst (v := nI 0) hx hb dL_law_338 (by decide) ?_
  refine lv_iconst (v := nI 0) hx hb dL_law_339 (by decide) ?_
  refine x_doneI X h (x_runSH (n := 6) X h (w_does_merge_I (LL Z) hL (lv := 9) (by decide) (-1) (nI 0) (nI 0) (nI 0) (x_X6_merge_1 (LL Z) hst hL hG2.ok n mcs hBK (-1) (nI 0) (by decide)) _) q378 q5 q376 q377 ⟨by decide, by decide, by decide +kernel⟩ rfl (Nat.le_trans (by decide) hR1) (Nat.le_trans (by decide) hR2) ⟨by omega, by omega⟩ hl.1 (Nat.le_of_ble_eq_true rfl) dL_law_340 rfl) (fun H locs h => ?_)
  refine lv_sipush (v := (-300)) hx hb dL_law_343 (by decide) ?_
  refine lv_icmp_ne (tgt := 417) hx hb dL_law_346 (by decide) (fun c => absurd rfl c) (fun _ => ?_)
  refine lv_aload_n hx hb dL_law_349 rfl (lv_at hl 3 rfl) ?_
  refine lv_iconst (v := nI 5) hx hb dL_law_350 (by decide) ?_
  refine lv_iconst (v := nI 0) hx hb dL_law_351 (by decide) ?_
  refine lv_iconst (v := nI 0) hx hb dL_law_352 (by decide) ?_
  refine lv_iconst (v := nI 0) hx hb dL_law_353 (by decide) ?_
  refine lv_iconst (v := nI 0) hx hb dL_law_354 (by decide) ?_
  refine x_doneI X h (x_runSH (n := 6) X h (w_does_pass_A (LL Z) hL (lv := 9) (by decide) (nI 0) (nI 0) (nI 0) (nI 0) (x_X6_pass_1 (LL Z) hst hL hG2.ok n mcs hBK (nI 0) (by decide)) _) q378 q5 q376 q377 ⟨by decide, by decide, by decide +kernel⟩ rfl (Nat.le_trans (by decide) hR1) (Nat.le_trans (by decide) hR2) ⟨by omega, by omega⟩ hl.1 (Nat.le_of_ble_eq_true rfl) dL_law_355 rfl) (fun H locs h => ?_)
  refine lv_sipush (v := (-200)) hx hb dL_law_358 (by decide) ?_
  refine lv_icmp_ne (tgt := 417) hx hb dL_law_361 (by decide) (fun c => absurd rfl c) (fun _ => ?_)
  refine lv_aload_n hx hb dL_law_364 rfl (lv_at hl 3 rfl) ?_
  refine lv_iconst (v := nI 0) hx hb dL_law_365 (by decide) ?_
  refine lv_bipush (v := nI 6) hx hb dL_law_366 (by decide) ?_
  refine lv_iconst (v := nI 0) hx hb dL_law_368 (by decide) ?_
  refine lv_iconst (v := nI 0) hx hb dL_law_369 (by decide) ?_
  refine lv_iconst (v := nI 0) hx hb dL_law_370 (by decide) ?_
  refine x_doneI X h (x_runSH (n := 6) X h (w_asks_state_I (LL Z) hL (lv := 9) (by decide) (nI 6) (nI 0) (nI 0) (nI 0) (x_X6_state_1 (LL Z) hst hL hG2.ok n mcs hBK (nI 6) (nI 0) (by rw [show isDev (nI 6) = false by decide, Bool.false_and])) _) q669 q5 q667 q668 ⟨by decide, by decide, by decide +kernel⟩ rfl (Nat.le_trans (by decide) hR1) (Nat.le_trans (by decide) hR2) ⟨by omega, by omega⟩ hl.1 (Nat.le_of_ble_eq_true rfl) dL_law_371 rfl) (fun H locs h => ?_)
  refine lv_sipush (v := (-300)) hx hb dL_law_374 (by decide) ?_
  refine lv_icmp_ne (tgt := 417) hx hb dL_law_377 (by decide) (fun c => absurd rfl c) (fun _ => ?_)
  refine lv_aload_n hx hb dL_law_380 rfl (lv_at hl 3 rfl) ?_
  refine lv_bipush (v := nI 6) hx hb dL_law_381 (by decide) ?_
  refine lv_iconst (v := (-1)) hx hb dL_law_383 (by decide) ?_
  refine lv_iconst (v := nI 0) hx hb dL_law_384 (by decide) ?_
  refine lv_iconst (v := nI 0) hx hb dL_law_385 (by decide) ?_
  refine lv_iconst (v := nI 0) hx hb dL_law_386 (by decide) ?_
  refine x_doneI X h (x_runSH (n := 6) X h (w_asks_clashes_I (LL Z) hL (lv := 9) (by decide) (-1) (nI 0) (nI 0) (nI 0) (x_X6_clashes_1 (LL Z) hst hL hG2.ok n mcs hBK (-1) (by decide)) _) q669 q5 q667 q668 ⟨by decide, by decide, by decide +kernel⟩ rfl (Nat.le_trans (by decide) hR1) (Nat.le_trans (by decide) hR2) ⟨by omega, by omega⟩ hl.1 (Nat.le_of_ble_eq_true rfl) dL_law_387 rfl) (fun H locs h => ?_)
  refine lv_sipush (v := (-300)) hx hb dL_law_390 (by decide) ?_
  refine lv_icmp_ne (tgt := 417) hx hb dL_law_393 (by decide) (fun c => absurd rfl c) (fun _ => ?_)
  refine lv_aload_n hx hb dL_law_396 rfl (lv_at hl 3 rfl) ?_
  refine lv_bipush (v := nI 7) hx hb dL_law_397 (by decide) ?_
  refine lv_iconst (v := nI 0) hx hb dL_law_399 (by decide) ?_
  refine lv_bipush (v := nI 6) hx hb dL_law_400 (by decide) ?_
  refine lv_iconst (v := nI 0) hx hb dL_law_402 (by decide) ?_
  refine lv_iconst (v := nI 0) hx hb dL_law_403 (by decide) ?_
  refine x_doneI X h (x_runSH (n := 6) X h (w_asks_agreement_I (LL Z) hL (lv := 9) (by decide) (nI 0) (nI 6) (nI 0) (nI 0) (x_X6_agreement_1 (LL Z) hst hL hG2.ok n mcs hBK (nI 0) (nI 6) (by decide)) _) q669 q5 q667 q668 ⟨by decide, by decide, by decide +kernel⟩ rfl (Nat.le_trans (by decide) hR1) (Nat.le_trans (by decide) hR2) ⟨by omega, by omega⟩ hl.1 (Nat.le_of_ble_eq_true rfl) dL_law_404 rfl) (fun H locs h => ?_)
  refine lv_sipush (v := (-300)) hx hb dL_law_407 (by decide) ?_
  refine lv_icmp_ne (tgt := 417) hx hb dL_law_410 (by decide) (fun c => absurd rfl c) (fun _ => ?_)
  refine lv_iconst (v := nI 1) hx hb dL_law_413 (by decide) ?_
  refine lv_goto (tgt := 418) hx hb dL_law_414 (by decide) ?_
  exact kk H locs ls h
end SEGS
