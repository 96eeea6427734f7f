/-! Worlds that grow: a call's end tells the new world: places, names, contents -/
abbrev WS : Type := (KN → Nat) × List KN × (KN → va_E)
abbrev wsB (D : va_G) (ad : KN → Nat) (Ks : List KN) (sz : Nat) : WS → State → Prop := fun u t => Hw D u.1 u.2.1 u.2.2 t.heap ∧ Hd (wA ad Ks sz) u.1 u.2.1
def GV (l : Launch) (y : MethodName) (cc : ByteArray) (maxL : Nat) (lv mc ms : Nat) (D : va_G) (tc : TC) (dz : Nat) (ad : KN → Nat) (Ks : List KN) (st : KN → va_E) (av : List Value) (P : WS → Prop) : Prop :=
  ∀ sz : Nat, Met l y (wsA y cc maxL none) (rmL lv mc ms) (va_Pc av (PreW D tc dz ad Ks st sz)) (va_Qv P (wsB D ad Ks sz) (wA ad Ks sz)) mc ms (wA ad Ks sz)
def GI (l : Launch) (y : MethodName) (cc : ByteArray) (maxL : Nat) (ret : Option FieldType) (lv mc ms : Nat) (D : va_G) (tc : TC) (dz : Nat) (ad : KN → Nat) (Ks : List KN) (st : KN → va_E) (av : List Value) (P : Int32 → WS → Prop) : Prop :=
  ∀ sz : Nat, Met l y (wsA y cc maxL ret) (rmL lv mc ms) (va_Pc av (PreW D tc dz ad Ks st sz)) (va_Qi P (wsB D ad Ks sz) (wA ad Ks sz)) mc ms (wA ad Ks sz)
def GR (l : Launch) (y : MethodName) (cc : ByteArray) (maxL : Nat) (ret : Option FieldType) (lv mc ms : Nat) (D : va_G) (tc : TC) (dz : Nat) (ad : KN → Nat) (Ks : List KN) (st : KN → va_E) (av : List Value) (P : Option Nat → WS → Prop) : Prop :=
  ∀ sz : Nat, Met l y (wsA y cc maxL ret) (rmL lv mc ms) (va_Pc av (PreW D tc dz ad Ks st sz)) (va_Qq P (wsB D ad Ks sz) (wA ad Ks sz)) mc ms (wA ad Ks sz)
theorem Hd.mono {A B : Nat → Prop} {ad : KN → Nat} {Ks : List KN} (h : Hd A ad Ks) (hAB : ∀ q, A q → B q) : Hd B ad Ks := ⟨h.1, h.2.1, fun k hk => hAB _ (h.2.2 k hk)⟩
section GROW
variable {p : Program} {l : Launch} {e : Env} {R : Room} {s : State} {m : MethodId} {args : Array Value} {below : List Frame} {meth : Method} {c : Code} {H : Heap} {locs : List Loc} {cells slots : Nat} {Q : State → Prop}
variable {cc : ByteArray} {own : String} {nL : Nat} {D : va_G} {tc : TC} {dz : Nat} {A : Nat → Prop} {ad ad0 : KN → Nat} {Ks Ks0 : List KN} {st : KN → va_E} {pc : Nat} {ls : Array Slot} {rest : List Value}
theorem g_vret (X : Cx p s m args meth c cc own nL D tc dz (wA ad0 Ks0 s.heap.size)) (h : Sx D (wA ad0 Ks0 s.heap.size) ad Ks st s H locs) {P : WS → Prop} (hr : meth.sig.returnType = none) {mc ms : Nat} (hP : P (ad, Ks, st)) (hc : cells ≤ mc) (hs : slots ≤ ms) (hdg : decode cc pc = .ok (.return_, 1)) :
    W p l e R s m args below meth c H locs cells slots (MQ below (va_Qv P (wsB D ad0 Ks0 s.heap.size) (wA ad0 Ks0 s.heap.size)) args s mc ms (wA ad0 Ks0 s.heap.size)) (F0 m pc ls []) := by
  obtain ⟨⟨hx, hb, -, hown, hts⟩, hlocks, -⟩ := X
  exact W.widen hc hs (W.vret hx hb hr (fun t ht hW => ⟨⟨(ad, Ks, st), rfl, hP, h.1.onto ht, h.2.1⟩, h.2.2.F ht⟩) h.2.2.2.2 hdg hlocks)
theorem g_iret (X : Cx p s m args meth c cc own nL D tc dz (wA ad0 Ks0 s.heap.size)) (h : Sx D (wA ad0 Ks0 s.heap.size) ad Ks st s H locs) {P : Int32 → WS → Prop} {ty : FieldType} (hr : meth.sig.returnType = some ty) {v : Int32} (hn : narrow ty (.int v) = .int v) {mc ms : Nat} (hP : P v (ad, Ks, st)) (hc : cells ≤ mc) (hs : slots ≤ ms) (hdg : decode cc pc = .ok (.ireturn, 1)) :
    W p l e R s m args below meth c H locs cells slots (MQ below (va_Qi P (wsB D ad0 Ks0 s.heap.size) (wA ad0 Ks0 s.heap.size)) args s mc ms (wA ad0 Ks0 s.heap.size)) (F0 m pc ls [.int v]) := by
  obtain ⟨⟨hx, hb, -, hown, hts⟩, hlocks, -⟩ := X
  exact W.widen hc hs (W.zret hx hb hr hn (fun t ht hW => ⟨⟨v, (ad, Ks, st), rfl, hP, h.1.onto ht, h.2.1⟩, h.2.2.F ht⟩) h.2.2.2.2 hdg hlocks)
theorem g_aret (X : Cx p s m args meth c cc own nL D tc dz (wA ad0 Ks0 s.heap.size)) (h : Sx D (wA ad0 Ks0 s.heap.size) ad Ks st s H locs) {P : Option Nat → WS → Prop} {rt : FieldType} (hr : meth.sig.returnType = some rt) (hrt : (∃ n, rt = .object n) ∨ ∃ t, rt = .array t) {a mc ms : Nat} (hP : P (some a) (ad, Ks, st)) (hc : cells ≤ mc) (hs : slots ≤ ms) (hdg : decode cc pc = .ok (.areturn, 1)) :
    W p l e R s m args below meth c H locs cells slots (MQ below (va_Qq P (wsB D ad0 Ks0 s.heap.size) (wA ad0 Ks0 s.heap.size)) args s mc ms (wA ad0 Ks0 s.heap.size)) (F0 m pc ls [.ref a]) := by
  obtain ⟨⟨hx, hb, -, hown, hts⟩, hlocks, -⟩ := X
  exact W.widen hc hs (W.aret hx hb hr hrt (va_rf_or (some a)) (fun t ht hW => ⟨⟨some a, (ad, Ks, st), rfl, hP, h.1.onto ht, h.2.1⟩, h.2.2.F ht⟩) h.2.2.2.2 hdg hlocks)
variable {y : MethodName} {bytes : ByteArray} {maxL n lv mc ms index : Nat} {ret : Option FieldType} {As : List Value} {Qc : Array Value → State → Outcome → State → Prop} {free : Addr → Prop}
/-- constructors: one of a class at hand, one of a nest mate -/
theorem g_runI (X : Cx p s m args meth c cc own nL D tc dz A) (h : Sx D A ad Ks st s H locs) {b : Nat} (hM : Met l y (wsA y bytes maxL none) (rmL lv mc ms) (va_Pc (.ref b :: As) (PreW D tc dz ad Ks st H.size)) Qc mc ms free) (F : YF y bytes maxL none n) (w1 : Cond.methodLink own index y ∈ AW) (w2 : Cond.instanceMethod y ∈ AW) (hi : y.name = "<init>") (hn : As.length = n) (hf : lv + 1 ≤ R.frames) (hlo : 8 + (maxL + 11) + 32 * lv ≤ R.locals) (hcl : cells + mc ≤ R.cells ∧ slots + ms ≤ R.slots) (hsize : ls.size = nL) (hcat : (rest.map fun v => v.category).sum ≤ 8) (hdg : decode cc pc = .ok (.invokespecial index, 3)) {st0 : List Value} (hst : st0 = As.reverse ++ .ref b :: rest) :
    va_Run p l e R s m args below meth c H locs cells slots mc ms (F0 m pc ls st0) rest (Qc (Value.ref b :: As).toArray) free := by
  exact va_runI X.1 hM ⟨x_cb X F w1 hf hlo, hi, X.1.2.2.2.2 _ w2⟩ ⟨PreW.blind, fun U hU hW => ⟨rfl, PreW.of X h U hU hW⟩⟩ rfl hn hsize hst (lv_room hcat) hdg hcl
theorem g_runIN {host : String} (X : Cx p s m args meth c cc own nL D tc dz A) (h : Sx D A ad Ks st s H locs) {b : Nat} (hM : Met l y (wsA y bytes maxL none) (rmL lv mc ms) (va_Pc (.ref b :: As) (PreW D tc dz ad Ks st H.size)) Qc mc ms free) (F : YF y bytes maxL none n) (w1 : Cond.methodLinkNest own index y host ∈ lw_tbl) (w2 : Cond.instanceMethod y ∈ AW) (hi : y.name = "<init>") (hn : As.length = n) (hf : lv + 1 ≤ R.frames) (hlo : 8 + (maxL + 11) + 32 * lv ≤ R.locals) (hcl : cells + mc ≤ R.cells ∧ slots + ms ≤ R.slots) (hsize : ls.size = nL) (hcat : (rest.map fun v => v.category).sum ≤ 8) (hdg : decode cc pc = .ok (.invokespecial index, 3)) {st0 : List Value} (hst : st0 = As.reverse ++ .ref b :: rest) :
    va_Run p l e R s m args below meth c H locs cells slots mc ms (F0 m pc ls st0) rest (Qc (Value.ref b :: As).toArray) free := by
  exact va_runIN X.1 hM ⟨x_cn X F w1 hf hlo, hi, X.1.2.2.2.2 _ w2⟩ ⟨PreW.blind, fun U hU hW => ⟨rfl, PreW.of X h U hU hW⟩⟩ rfl hn hsize hst (lv_room hcat) hdg hcl
/-- behind a call that makes a new world -/
theorem g_doneV (X : Cx p s m args meth c cc own nL D tc dz A) (h : Sx D A ad Ks st s H locs) {P : WS → Prop} {st0 : List Value} {a : Array Value} (hr : va_Run p l e R s m args below meth c H locs cells slots mc ms (F0 m pc ls st0) rest (va_Qv P (wsB D ad Ks H.size) (wA ad Ks H.size) a) (wA ad Ks H.size))
    (kk : ∀ (u : WS) (H1 : Heap) (locs1 : List Loc), P u → Sx D A u.1 u.2.1 u.2.2 s H1 locs1 → W p l e R s m args below meth c H1 locs1 (cells + mc) (slots + ms) Q (F0 m (pc + 3) ls rest)) : W p l e R s m args below meth c H locs cells slots Q (F0 m pc ls st0) := by
  have hA := wA_sub h.2.1 h.2.2 X.2.2.2.2.2
  refine va_callv hr h.2.2 (fun q _ hq => hA q hq) hA (fun u t H1 locs1 ht hvm hp hB hz hk hS => ?_)
  exact kk u H1 locs1 hp ⟨ht ▸ hB.1, hB.2.mono hA, hS⟩
theorem g_doneI (X : Cx p s m args meth c cc own nL D tc dz A) (h : Sx D A ad Ks st s H locs) {P : Int32 → WS → Prop} {st0 : List Value} {a : Array Value} (hr : va_Run p l e R s m args below meth c H locs cells slots mc ms (F0 m pc ls st0) rest (va_Qi P (wsB D ad Ks H.size) (wA ad Ks H.size) a) (wA ad Ks H.size))
    (kk : ∀ (r : Int32) (u : WS) (H1 : Heap) (locs1 : List Loc), P r u → Sx D A u.1 u.2.1 u.2.2 s H1 locs1 → W p l e R s m args below meth c H1 locs1 (cells + mc) (slots + ms) Q (F0 m (pc + 3) ls (.int r :: rest))) : W p l e R s m args below meth c H locs cells slots Q (F0 m pc ls st0) := by
  have hA := wA_sub h.2.1 h.2.2 X.2.2.2.2.2
  refine va_calli hr h.2.2 (fun q _ hq => hA q hq) hA (fun r u t H1 locs1 ht hvm hp hB hz hk hS => ?_)
  exact kk r u H1 locs1 hp ⟨ht ▸ hB.1, hB.2.mono hA, hS⟩
theorem g_doneR (X : Cx p s m args meth c cc own nL D tc dz A) (h : Sx D A ad Ks st s H locs) {P : Option Nat → WS → Prop} {st0 : List Value} {a : Array Value} (hr : va_Run p l e R s m args below meth c H locs cells slots mc ms (F0 m pc ls st0) rest (va_Qq P (wsB D ad Ks H.size) (wA ad Ks H.size) a) (wA ad Ks H.size))
    (kk : ∀ (r : Option Nat) (u : WS) (H1 : Heap) (locs1 : List Loc), P r u → Sx D A u.1 u.2.1 u.2.2 s H1 locs1 → W p l e R s m args below meth c H1 locs1 (cells + mc) (slots + ms) Q (F0 m (pc + 3) ls (va_rf r :: rest))) : W p l e R s m args below meth c H locs cells slots Q (F0 m pc ls st0) := by
  have hA := wA_sub h.2.1 h.2.2 X.2.2.2.2.2
  refine va_callq hr h.2.2 (fun q _ hq => hA q hq) hA (fun r u t H1 locs1 ht hvm hp hB hz hk hS => ?_)
  exact kk r u H1 locs1 hp ⟨ht ▸ hB.1, hB.2.mono hA, hS⟩
theorem g_objInit (X : Cx p s m args meth c cc own nL D tc dz A) (hsize : ls.size = nL) {a : Nat} (w1 : Cond.methodLink own index Lib.objectInit ∈ AW) (hdg : decode cc pc = .ok (.invokespecial index, 3)) (hf : 1 ≤ R.frames) (hlo : (rest.map fun v => v.category).sum + 12 ≤ R.locals) (kk : W p l e R s m args below meth c H locs cells slots Q (F0 m (pc + 3) ls rest)) : W p l e R s m args below meth c H locs cells slots Q (F0 m pc ls (.ref a :: rest)) := by
  obtain ⟨⟨hx, hb, hml, hown, hts⟩, -⟩ := X
  exact W.objInit hx hb hown (hts _ w1) (hts _ q35) (hts _ q36) rfl (hsize.trans hml.symm) rfl hdg hf (by show 2 * 0 + _ + 12 ≤ _; omega) kk
/-- made: an object, arrays -/
theorem r_new (X : Cx p s m args meth c cc own nL D tc dz A) (h : Sx D A ad Ks st s H locs) {k : KN} (hk : k ∉ Ks) {ci : Nat} {C : String} {T : u_T} {N : Nat} {fs : List Value} (hc : vwCl[ci]? = some (C, T, N)) (hin : ∀ w ∈ u_ws C T N, w ∈ AW) {ty : Nat → FieldType} (hty : ∀ k, k < N → parseFieldDescriptor (T k).2.2.1 = some (ty k)) (w1 : Cond.classLink own index C ∈ AW) (w2 : Cond.instantiable C N ∈ AW) (w3 : Cond.initialized C ∈ AW) (hfs : ∀ j, j < N → defaultValue (ty j) = vp_V fs j) (hcl : cells + 1 ≤ R.cells) (hsl : slots + N ≤ R.slots) (hdg : decode cc pc = .ok (.new index, 3))
    (kk : ∀ (ad1 : KN → Nat) (H1 : Heap) (a1 : Nat), a1 = ad1 k → (∀ k', k' ≠ k → ad1 k' = ad k') → Sx D A ad1 (k :: Ks) (sset st k (.inr (ci, fs))) s H1 locs → W p l e R s m args below meth c H1 locs (cells + 1) (slots + N) Q (F0 m (pc + 3) ls (.ref a1 :: rest))) : W p l e R s m args below meth c H locs cells slots Q (F0 m pc ls rest) := by
  obtain ⟨⟨hx, hb, hml, hown, hts⟩, -, hK, -, -, hA⟩ := X
  exact va_new hx hb hts hin ty hty hown (hts _ w1) (hts _ w2) (hts _ w3) hK h.1.P (h.2.1.Dw st) h.2.2 hA hc hfs hcl hsl hdg (fun q H1 hP hD hS => kk (sset ad k q) H1 q (sset_eq ad k q).symm (fun k' hk' => sset_ne ad q hk') ⟨Hw.push hk hP, h.2.1.push hk hD, hS⟩)
theorem tc_int {K : List (ClassId × FieldType)} {cA : ClassId} (hK : va_K D vwCl (tysOf tc) s) (h : va_K D vwCl (tysOf tc ++ [(cA, .int)]) s) : cA = tc 0 := by
  have h1 : s.vm.findClass ("[" ++ FieldType.int.toString) = some (tc 0) := (hK.2 0 _ rfl).2
  have h2 : s.vm.findClass ("[" ++ FieldType.int.toString) = some cA := (h.2 7 _ rfl).2
  exact Option.some.inj (h2.symm.trans h1)
theorem r_newI (X : Cx p s m args meth c cc own nL D tc dz A) (h : Sx D A ad Ks st s H locs) {k : KN} (hk : k ∉ Ks) {n : Nat} (hn : n < 2 ^ 31) (hb4 : n * 4 ≤ 536870912) (hcl : cells + 1 ≤ R.cells) (hsl : slots + n ≤ R.slots) (hdg : decode cc pc = .ok (.newarray .int, 2))
    (kk : ∀ (ad1 : KN → Nat) (H1 : Heap) (a1 : Nat), a1 = ad1 k → (∀ k', k' ≠ k → ad1 k' = ad k') → Sx D A ad1 (k :: Ks) (sset st k (.inl (tc 0, n, .inl (fun _ => 0)))) s H1 locs → W p l e R s m args below meth c H1 locs (cells + 1) (slots + n) Q (F0 m (pc + 2) ls (.ref a1 :: rest))) : W p l e R s m args below meth c H locs cells slots Q (F0 m pc ls (.int (nI n) :: rest)) := by
  obtain ⟨⟨hx, hb, hml, hown, hts⟩, -, hK, -, -, hA⟩ := X
  refine va_newa (atype := .int) (ty := .int) (a0 := (n, .inl (fun _ => 0))) hx hb (hts _ q78) rfl hK h.1.P (h.2.1.Dw st) h.2.2 hA (fun cA => rfl) (nI_pos hn) (nI_clamp hn) hb4 hcl hsl hdg (fun q cA H1 hK2 hP hD hS => ?_)
  have e := tc_int (K := []) hK hK2
  subst e
  exact kk (sset ad k q) H1 q (sset_eq ad k q).symm (fun k' hk' => sset_ne ad q hk') ⟨Hw.push hk hP, h.2.1.push hk hD, hS⟩
theorem r_newJ (X : Cx p s m args meth c cc own nL D tc dz A) (h : Sx D A ad Ks st s H locs) {k : KN} (hk : k ∉ Ks) {n : Nat} (hn : n < 2 ^ 31) (hb4 : n * 8 ≤ 536870912) (hcl : cells + 1 ≤ R.cells) (hsl : slots + n ≤ R.slots) (hdg : decode cc pc = .ok (.newarray .long, 2))
    (kk : ∀ (ad1 : KN → Nat) (H1 : Heap) (a1 : Nat), a1 = ad1 k → (∀ k', k' ≠ k → ad1 k' = ad k') → Sx D A ad1 (k :: Ks) (sset st k (.inl (tc 2, n, .inr (.inl (fun _ => 0))))) s H1 locs → W p l e R s m args below meth c H1 locs (cells + 1) (slots + n) Q (F0 m (pc + 2) ls (.ref a1 :: rest))) : W p l e R s m args below meth c H locs cells slots Q (F0 m pc ls (.int (nI n) :: rest)) := by
  obtain ⟨⟨hx, hb, hml, hown, hts⟩, -, hK, -, -, hA⟩ := X
  refine va_newa (atype := .long) (ty := .long) (a0 := (n, .inr (.inl (fun _ => 0)))) hx hb (hts _ q796) rfl hK h.1.P (h.2.1.Dw st) h.2.2 hA (fun cA => rfl) (nI_pos hn) (nI_clamp hn) hb4 hcl hsl hdg (fun q cA H1 hK2 hP hD hS => ?_)
  have h1 : s.vm.findClass ("[" ++ FieldType.long.toString) = some (tc 2) := (hK.2 2 _ rfl).2
  have h2 : s.vm.findClass ("[" ++ FieldType.long.toString) = some cA := (hK2.2 7 _ rfl).2
  have e : cA = tc 2 := Option.some.inj (h2.symm.trans h1)
  subst e
  exact kk (sset ad k q) H1 q (sset_eq ad k q).symm (fun k' hk' => sset_ne ad q hk') ⟨Hw.push hk hP, h.2.1.push hk hD, hS⟩
/-- an array of references -/
theorem r_newq (X : Cx p s m args meth c cc own nL D tc dz A) (h : Sx D A ad Ks st s H locs) {k : KN} (hk : k ∉ Ks) {n t0 : Nat} {C : String} {cB : ClassId} (ht : (tysOf tc)[t0]? = some (cB, .object C)) (w1 : Cond.classLink own index C ∈ AW) (w2 : Cond.arrayOver (.object C) ∈ lw_tbl) (hn : n < 2 ^ 31) (hb4 : n * 4 ≤ 536870912) (hcl : cells + 1 ≤ R.cells) (hsl : slots + n ≤ R.slots) (hdg : decode cc pc = .ok (.anewarray index, 3))
    (kk : ∀ (ad1 : KN → Nat) (H1 : Heap) (a1 : Nat), a1 = ad1 k → (∀ k', k' ≠ k → ad1 k' = ad k') → Sx D A ad1 (k :: Ks) (sset st k (.inl (cB, n, .inr (.inr (.inr (.inr (fun _ => none))))))) s H1 locs → W p l e R s m args below meth c H1 locs (cells + 1) (slots + n) Q (F0 m (pc + 3) ls (.ref a1 :: rest))) : W p l e R s m args below meth c H locs cells slots Q (F0 m pc ls (.int (nI n) :: rest)) := by
  obtain ⟨⟨hx, hb, hml, hown, hts⟩, -, hK, hN, -, hA⟩ := X
  refine va_newq hx hb hown (hts _ w1) (hN.2.2.2.2.1 _ w2) hK h.1.P (h.2.1.Dw st) h.2.2 hA (nI_pos hn) (nI_clamp hn) hb4 hcl hsl hdg (fun q cA H1 hK2 hP hD hS => ?_)
  obtain ⟨-, -, -, -, -, h1⟩ : va_RA s cB (.object C) := (hK.2 t0 _ ht).2
  obtain ⟨-, -, -, -, -, h2⟩ : va_RA s cA (.object C) := (hK2.2 7 _ rfl).2
  have e : cA = cB := Option.some.inj (h2.symm.trans h1)
  subst e
  exact kk (sset ad k q) H1 q (sset_eq ad k q).symm (fun k' hk' => sset_ne ad q hk') ⟨Hw.push hk hP, h.2.1.push hk hD, hS⟩
/-- writes, the places told by equations -/
theorem r_putF (X : Cx p s m args meth c cc own nL D tc dz A) (h : Sx D A ad Ks st s H locs) (hin2 : meth.name = "<init>") {a : Nat} {k : KN} (ha : a = ad k) (hk : k ∈ Ks) {ci : Nat} {fs : List Value} {C ref : String} {T : u_T} {N : Nat} (he : st k = .inr (ci, fs)) (hc : vwCl[ci]? = some (C, T, N)) (hin : ∀ w ∈ u_ws C T N, w ∈ AW) {ty0 : Nat → FieldType} (hty : ∀ k, k < N → parseFieldDescriptor (T k).2.2.1 = some (ty0 k)) (hnm : ∀ a, a < N → ∀ b, b < N → a ≠ b → (T a).2.1 ≠ (T b).2.1) (i : Nat) (hi : i < N) (hq : Cond.fieldLink own index ref (T i).2.1 (T i).2.2.1 ∈ AW) (hsame : (T i).1 = ref) (hdecl : (T i).1 = own) (hfin : (T i).2.2.2 = true) {v : Value} (hn : narrow (ty0 i) v = v) (hfit : fits (ty0 i) v = true) (hl : i < fs.length) (hdg : decode cc pc = .ok (.putfield index, 3))
    (kk : ∀ (H1 : Heap) (locs1 : List Loc), Sx D A ad Ks (sset st k (.inr (ci, fs.set i v))) s H1 locs1 → W p l e R s m args below meth c H1 locs1 cells slots Q (F0 m (pc + 3) ls rest)) : W p l e R s m args below meth c H locs cells slots Q (F0 m pc ls (v :: .ref a :: rest)) := by
  subst ha
  exact x_putF X h hin2 hk he hc hin hty hnm i hi hq hsame hdecl hfin hn hfit hl hdg kk
theorem r_put (X : Cx p s m args meth c cc own nL D tc dz A) (h : Sx D A ad Ks st s H locs) {a : Nat} {k : KN} (ha : a = ad k) (hk : k ∈ Ks) {ci : Nat} {fs : List Value} {C ref : String} {T : u_T} {N : Nat} (he : st k = .inr (ci, fs)) (hc : vwCl[ci]? = some (C, T, N)) (hin : ∀ w ∈ u_ws C T N, w ∈ AW) {ty0 : Nat → FieldType} (hty : ∀ k, k < N → parseFieldDescriptor (T k).2.2.1 = some (ty0 k)) (hnm : ∀ a, a < N → ∀ b, b < N → a ≠ b → (T a).2.1 ≠ (T b).2.1) (i : Nat) (hi : i < N) (hq : Cond.fieldLink own index ref (T i).2.1 (T i).2.2.1 ∈ AW) (hsame : (T i).1 = ref) (hfin : (T i).2.2.2 = false) {v : Value} (hn : narrow (ty0 i) v = v) (hfit : fits (ty0 i) v = true) (hl : i < fs.length) (hdg : decode cc pc = .ok (.putfield index, 3))
    (kk : ∀ (H1 : Heap) (locs1 : List Loc), Sx D A ad Ks (sset st k (.inr (ci, fs.set i v))) s H1 locs1 → W p l e R s m args below meth c H1 locs1 cells slots Q (F0 m (pc + 3) ls rest)) : W p l e R s m args below meth c H locs cells slots Q (F0 m pc ls (v :: .ref a :: rest)) := by
  subst ha
  exact x_put X h hk he hc hin hty hnm i hi hq hsame hfin hn hfit hl hdg kk
theorem r_get (X : Cx p s m args meth c cc own nL D tc dz A) (h : Sx D A ad Ks st s H locs) {a : Nat} {k : KN} (ha : a = ad k) (hk : k ∈ Ks) {ci : Nat} {fs : List Value} {C ref : String} {T : u_T} {N : Nat} (he : st k = .inr (ci, fs)) (hc : vwCl[ci]? = some (C, T, N)) (hin : ∀ w ∈ u_ws C T N, w ∈ AW) (i : Nat) (hi : i < N) (hq : Cond.fieldLink own index ref (T i).2.1 (T i).2.2.1 ∈ AW) (hsame : (T i).1 = ref) {v : Value} (hv : fs[i]? = some v) (hdg : decode cc pc = .ok (.getfield index, 3))
    (kk : W p l e R s m args below meth c H locs cells slots Q (F0 m (pc + 3) ls (v :: rest))) : W p l e R s m args below meth c H locs cells slots Q (F0 m pc ls (.ref a :: rest)) := by
  subst ha
  exact x_get X h hk he hc hin i hi hq hsame hv hdg kk
/-- an object into an array of references -/
theorem r_astq (X : Cx p s m args meth c cc own nL D tc dz A) (h : Sx D A ad Ks st s H locs) {a v : Nat} {k k2 : KN} (ha : a = ad k) (hk : k ∈ Ks) {cA : ClassId} {n t0 : Nat} {E : String} {f : Nat → Option Nat} (ht : (tysOf tc)[t0]? = some (cA, .object E)) (he : st k = .inl (cA, n, .inr (.inr (.inr (.inr f))))) (hv : v = ad k2) (hk2 : k2 ∈ Ks) {ci : Nat} {fs : List Value} {r : vw_C} (he2 : st k2 = .inr (ci, fs)) (hc : vwCl[ci]? = some r) (hcast : r.1 = E ∨ Cond.castable r.1 E ∈ lw_tbl) (j : Nat) (hj : j < n) (hn : n < 2 ^ 31) (hdg : decode cc pc = .ok (.aastore, 1))
    (kk : ∀ (H1 : Heap) (locs1 : List Loc), Sx D A ad Ks (sset st k (.inl (cA, n, .inr (.inr (.inr (.inr (va_up f j (some v)))))))) s H1 locs1 → W p l e R s m args below meth c H1 locs1 cells slots Q (F0 m (pc + 1) ls rest)) : W p l e R s m args below meth c H locs cells slots Q (F0 m pc ls (.ref v :: .int (nI j) :: .ref a :: rest)) := by
  subst ha
  subst hv
  obtain ⟨⟨hx, hb, -, hown, hts⟩, -, hK, hN, -⟩ := X
  obtain ⟨i, hi⟩ := List.getElem?_of_mem hk
  have hi2 := wl_at (ad := ad) (st := st) hi
  rw [he] at hi2
  obtain ⟨i3, hi3⟩ := List.getElem?_of_mem hk2
  have hi4 := wl_at (ad := ad) (st := st) hi3
  rw [he2] at hi4
  rcases hcast with hE | hcast
  · subst hE
    refine va_astq hx hb hK h.1.P (h.2.1.Dw st) h.2.2 i t0 i3 ci hi2 ht hi4 hc (vp_in_nI hj hn) hdg (fun H1 locs1 hP _ hS => ?_)
    rw [nI_clamp (Nat.lt_trans hj hn)] at hP
    exact kk H1 locs1 ⟨Hw.set h.2.1.1 hi hP, h.2.1, hS⟩
  · refine va_astqO hx hb hK h.1.P (h.2.1.Dw st) h.2.2 i t0 i3 ci hi2 ht (hN.2.1 _ _ hcast) hi4 hc (vp_in_nI hj hn) hdg (fun H1 locs1 hP _ hS => ?_)
    rw [nI_clamp (Nat.lt_trans hj hn)] at hP
    exact kk H1 locs1 ⟨Hw.set h.2.1.1 hi hP, h.2.1, hS⟩
end GROW
