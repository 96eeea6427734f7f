/-! the script: a part of it -/
theorem and_max (v : Int32) : ∃ x : Nat, x < 2 ^ 31 ∧ (v &&& 2147483647) = nI x := by
  have hm : (v &&& (2147483647 : Int32)).toBitVec.msb = false := by
    rw [Int32.toBitVec_and, BitVec.msb_and, show (2147483647 : Int32).toBitVec.msb = false by decide, Bool.and_false]
  have h1 : (v &&& (2147483647 : Int32)).toInt = ((v &&& (2147483647 : Int32)).toBitVec.toNat : Int) := by
    show (v &&& (2147483647 : Int32)).toBitVec.toInt = _
    exact BitVec.toInt_eq_toNat_of_msb hm
  have h2 := Int32.toInt_lt (v &&& (2147483647 : Int32))
  refine ⟨(v &&& (2147483647 : Int32)).toBitVec.toNat, by omega, i_ext ?_⟩
  rw [i_nI (by omega), h1]
/-- a contract's start that knows the script -/
def PreB (D : va_G) (tc : TC) (dz : Nat) (ad : KN → Nat) (Ks : List KN) (st : KN → va_E) (sz b L : Nat) (xs : Nat → Int32) (U : State) : Prop :=
  PreW D tc dz ad Ks st sz U ∧ va_X b L xs U U.heap ∧ b < sz ∧ ¬ wA ad Ks sz b
theorem PreB.blind {D : va_G} {tc : TC} {dz : Nat} {ad : KN → Nat} {Ks : List KN} {st : KN → va_E} {sz b L : Nat} {xs : Nat → Int32} {av : List Value} : FrameBlind (va_Pc av (PreB D tc dz ad Ks st sz b L xs)) := by
  intro a U g mk q
  obtain ⟨q0, q1, q2, q3⟩ := q
  have w := PreW.blind a U g mk ⟨q0, q1⟩
  exact ⟨w.1, w.2, va_X.moved (u := U) (U := U.calling g mk a) (Vm.Alike.refl U.vm) q2, q3⟩
theorem x_ofB {l : Launch} {y : MethodName} {cc : ByteArray} {maxL : Nat} {ret : Option FieldType} {rm : Room} {av : List Value} {Qc : Array Value → State → Outcome → State → Prop} {mc ms : Nat} {free : Addr → Prop} {D : va_G} {tc : TC} {dz : Nat} {ad : KN → Nat} {Ks : List KN} {st : KN → va_E} {sz b L : Nat} {xs : Nat → Int32}
    (hy : plainName y.cls = true) (hav : (lg_sl av).length ≤ maxL)
    (body : ∀ (p : Program) (e : Env) (s : State) (m : MethodId) (below : List Frame) (meth : Method) (c : Code) (ls : Array Slot), Cx p s m av.toArray meth c cc y.cls maxL D tc dz (wA ad Ks s.heap.size) → va_X b L xs s s.heap ∧ b < s.heap.size ∧ ¬ wA ad Ks s.heap.size b → meth.sig.returnType = ret → s.heap.size = sz → Sx D (wA ad Ks s.heap.size) ad Ks st s s.heap [] → lv_has ls maxL (lv_args 0 av) →
      W p l e rm s m av.toArray below meth c s.heap [] 0 0 (MQ below Qc av.toArray s mc ms free) (F0 m 0 ls [])) :
    Met l y (wsA y cc maxL ret) rm (va_Pc av (PreB D tc dz ad Ks st sz b L xs)) Qc mc ms free := by
  refine Met.ofW (cc := cc) (maxL := maxL) (ret := ret) hy rfl ?_
  intro p e s m args below meth c s₁ B hml hv
  obtain ⟨rfl, ⟨hsz, hw, hd, hK, hN, hZ⟩, hxs⟩ := hv
  have hts0 := atoms_spec (ws := wsA y cc maxL ret) B.pre
  have hown : s.vm.findClass y.cls = some m.cls := findClass_of_methodNamed B.named
  subst hsz
  rw [lg_entry_eq]
  exact body p e s m below meth c _ ⟨⟨B.exec, B.bytes, hml, hown, fun w hw => hts0 w (List.mem_cons_of_mem _ hw)⟩, B.notSynchronized, hK, hN, hZ, fun q h => Or.inr h⟩ hxs B.returns rfl ⟨hw, ⟨hd.1, hd.2.1, fun k hk => Or.inl ⟨k, hk, rfl⟩⟩, va_S.rf⟩ (lv_entry av hav)
section PARTS
variable {p : Program} {l : Launch} {e : Env} {R : Room} {s : State} {m : MethodId} {args : Array Value} {below : List Frame} {meth : Method} {c : Code} {H : Heap} {locs : List Loc} {cells slots : Nat} {Q : State → Prop}
variable {cc : ByteArray} {own : String} {nL : Nat} {D : va_G} {tc : TC} {dz : Nat} {A : Nat → Prop} {ad : KN → Nat} {Ks : List KN} {st : KN → va_E} {pc : Nat} {ls : Array Slot} {rest : List Value}
/-- what a body knows of the script -/
def XS (A : Nat → Prop) (b L : Nat) (xs : Nat → Int32) (s : State) : Prop := va_X b L xs s s.heap ∧ b < s.heap.size ∧ ¬ A b
theorem x_runB {rm : Room} {y : MethodName} {bytes : ByteArray} {maxL n mc ms index : Nat} {ret : Option FieldType} {As : List Value} {Qc : Array Value → State → Outcome → State → Prop} {free : Addr → Prop} {b L : Nat} {xs : Nat → Int32} (X : Cx p s m args meth c cc own nL D tc dz A) (hX : XS A b L xs s) (h : Sx D A ad Ks st s H locs) (hM : Met l y (wsA y bytes maxL ret) rm (va_Pc As (PreB D tc dz ad Ks st H.size b L xs)) Qc mc ms free) (F : YF y bytes maxL ret n) (w1 : Cond.methodLink own index y ∈ AW) (w2 : Cond.static y ∈ AW) (hn : As.length = n) (hrc : rm.cells = mc) (hrs : rm.slots = ms) (hf : rm.frames + 1 ≤ R.frames) (hlo : 8 + (maxL + 11) + rm.locals ≤ R.locals) (hcl : cells + mc ≤ R.cells ∧ slots + ms ≤ R.slots) (hsize : ls.size = nL) (hcat : (rest.map fun v => v.category).sum ≤ 8) (hdg : decode cc pc = .ok (.invokestatic index, 3)) {st0 : List Value} (hst : st0 = As.reverse ++ rest) :
    va_Run p l e R s m args below meth c H locs cells slots mc ms (F0 m pc ls st0) rest (Qc As.toArray) free := by
  have hB : CallB R s args own index y bytes maxL ret (wsA y bytes maxL ret) rm mc ms n := by
    obtain ⟨⟨hx, hb, -, hown, hts⟩, -⟩ := X
    exact callB_of n hts (goodIn_A F.1) rfl hrc hrs (hts _ F.2.1) (hts _ w1) F.2.2 ⟨hf, hlo⟩
  have hsz := h.2.2.1
  refine va_runS X.1 hM ⟨hB, X.1.2.2.2.2 _ w2⟩ ⟨PreB.blind, fun U hU hW => ⟨rfl, PreW.of X h U hU hW, ?_, Nat.lt_of_lt_of_le hX.2.1 hsz, fun q => hX.2.2 (wA_sub h.2.1 h.2.2 X.2.2.2.2.2 _ q)⟩⟩ rfl hn hsize hst (lv_room hcat) hdg hcl
  have w := (hX.1.kept (H1 := H) (h.2.2.2.1 b hX.2.1 hX.2.2)).moved hW.alike
  rw [hU]
  exact w
theorem m_L_part (b L : Nat) (xs : Nat → Int32) (i N : Nat) (hL : L ≤ 260) (hi : i < 1000) (hN0 : 0 < N) (hN : N < 2 ^ 31) (sz : Nat) : Met l yL_part (wsA yL_part cL_part 4 (some .int)) (rmK 0 0 0 0) (va_Pc [.ref b, .int (nI i), .int (nI N)] (PreB D tc dz ad Ks st sz b L xs)) (va_Qi (fun r u => (∃ j, j < N ∧ r = nI j) ∧ u = (ad, Ks, st)) (wsB D ad Ks sz) (wA ad Ks sz)) 0 0 (wA ad Ks sz) := by
  refine x_ofB (by decide +kernel) (Nat.le_of_ble_eq_true rfl) (fun pp ee s mm bel meth cd ls X hX hr hz h hl => ?_)
  subst hz
  obtain ⟨hx, hb, hmaxL, hown, hts⟩ := id X.1
  have hl : lv_has ls 4 [(0, .ref b), (1, .int (nI i)), (2, .int (nI N))] := hl
  have tail : ∀ v : Int32, W pp l ee (rmK 0 0 0 0) s mm [.ref b, .int (nI i), .int (nI N)].toArray bel meth cd s.heap [] 0 0 (MQ bel (va_Qi (fun r u => (∃ j, j < N ∧ r = nI j) ∧ u = (ad, Ks, st)) (wsB D ad Ks s.heap.size) (wA ad Ks s.heap.size)) [.ref b, .int (nI i), .int (nI N)].toArray s 0 0 (wA ad Ks s.heap.size)) (F0 mm 25 ls [.int v]) := fun v => by
    refine lv_istore_n (lv' := [(3, .int v), (0, .ref b), (1, .int (nI i)), (2, .int (nI N))]) hx hb dL_part_25 rfl hl (by decide) rfl (fun ls hl => ?_)
    refine lv_iload_n hx hb dL_part_26 rfl (lv_at hl 0 rfl) ?_
    refine lv_ldc hx hb hown (hts _ q375) dL_part_27 ?_
    refine lv_iand hx hb dL_part_29 ?_
    obtain ⟨x, hx31, e⟩ := and_max v
    rw [e]
    refine lv_iload_n hx hb dL_part_30 rfl (lv_at hl 3 rfl) ?_
    refine n_irem hx hb hx31 hN0 hN dL_part_31 ?_
    exact g_iret X h hr rfl ⟨⟨x % N, Nat.mod_lt _ hN0, rfl⟩, rfl⟩ (Nat.le_refl _) (Nat.le_refl _) dL_part_32
  refine lv_iload_n hx hb dL_part_0 rfl (lv_at hl 1 rfl) ?_
  refine lv_aload_n hx hb dL_part_1 rfl (lv_at hl 0 rfl) ?_
  refine va_slen hx hb hX.1 hX.2.1 hX.2.2 h.2.2 dL_part_2 ?_
  refine n_icmp_ge (tgt := 12) (a := i) (b := L) hx hb (by omega) (by omega) dL_part_3 (by decide) (fun c3 => ?_) (fun c3 => ?_)
  · refine lv_sipush (v := nI 599) hx hb dL_part_12 (by decide) ?_
    refine lv_iload_n hx hb dL_part_15 rfl (lv_at hl 1 rfl) ?_
    refine lv_imul hx hb dL_part_16 ?_
    refine lv_sipush (v := nI 449) hx hb dL_part_17 (by decide) ?_
    refine lv_iload_n hx hb dL_part_20 rfl (lv_at hl 1 rfl) ?_
    refine lv_imul hx hb dL_part_21 ?_
    refine lv_iload_n hx hb dL_part_22 rfl (lv_at hl 1 rfl) ?_
    refine lv_imul hx hb dL_part_23 ?_
    refine lv_iadd hx hb dL_part_24 ?_
    exact tail _
  · refine lv_aload_n hx hb dL_part_6 rfl (lv_at hl 0 rfl) ?_
    refine lv_iload_n hx hb dL_part_7 rfl (lv_at hl 1 rfl) ?_
    refine va_sld hx hb hX.1 hX.2.1 hX.2.2 h.2.2 (vp_in_nI (by omega) (by omega)) dL_part_8 ?_
    refine lv_goto (tgt := 25) hx hb dL_part_9 (by decide) ?_
    exact tail _
/-- a part of the script asked for: a number below N -/
theorem x_part {b L : Nat} {xs : Nat → Int32} {index i N : Nat} (X : Cx p s m args meth c cc own nL D tc dz A) (hX : XS A b L xs s) (h : Sx D A ad Ks st s H locs) (hL : L ≤ 260) (hi : i < 1000) (hN0 : 0 < N) (hN : N < 2 ^ 31) (w1 : Cond.methodLink own index yL_part ∈ AW) (w2 : Cond.static yL_part ∈ AW) (hf : 1 ≤ R.frames) (hlo : 23 ≤ R.locals) (hc : cells ≤ R.cells) (hs : slots ≤ R.slots) (hsize : ls.size = nL) (hcat : (rest.map fun v => v.category).sum ≤ 8) (hdg : decode cc pc = .ok (.invokestatic index, 3))
    (kk : ∀ (j : Nat) (H1 : Heap) (locs1 : List Loc), j < N → Sx D A ad Ks st s H1 locs1 → W p l e R s m args below meth c H1 locs1 cells slots Q (F0 m (pc + 3) ls (.int (nI j) :: rest))) : W p l e R s m args below meth c H locs cells slots Q (F0 m pc ls (.int (nI N) :: .int (nI i) :: .ref b :: rest)) := by
  refine g_doneI X h (x_runB (rm := rmK 0 0 0 0) X hX h (m_L_part (l := l) b L xs i N hL hi hN0 hN _) F_L_part w1 w2 rfl rfl rfl hf hlo ⟨hc, hs⟩ hsize hcat hdg rfl) (fun r u H1 locs1 hP h1 => ?_)
  obtain ⟨⟨j, hj, rfl⟩, rfl⟩ := hP
  exact kk j H1 locs1 hj h1
end PARTS
