/-! Contracts over the whole world; their starts, ends and calls -/
theorem Hw.onto {D : va_G} {ad : KN → Nat} {Ks : List KN} {st : KN → va_E} {H : Heap} {t : State} (h : Hw D ad Ks st H) (ht : t.heap = H) : Hw D ad Ks st t.heap := by rw [ht]; exact h
/-- returns the int r, the world is st' then; the same names at the same places -/
def MI (l : Launch) (y : MethodName) (cc : ByteArray) (maxL : Nat) (ret : Option FieldType) (lv : Nat) (D : va_G) (tc : TC) (dz : Nat) (ad : KN → Nat) (Ks : List KN) (st : KN → va_E) (av : List Value) (r : Int32) (st' : KN → va_E) : Prop :=
  ∀ sz : Nat, Met l y (wsA y cc maxL ret) (rmL lv 0 0) (va_Pc av (PreW D tc dz ad Ks st sz)) (va_Qi (fun (x : Int32) (_ : Unit) => x = r) (fun _ t => Hw D ad Ks st' t.heap) (wA ad Ks sz)) 0 0 (wA ad Ks sz)
def MF (l : Launch) (y : MethodName) (cc : ByteArray) (maxL : Nat) (ret : Option FieldType) (lv : Nat) (D : va_G) (tc : TC) (dz : Nat) (ad : KN → Nat) (Ks : List KN) (st : KN → va_E) (av : List Value) (r : UInt32) (st' : KN → va_E) : Prop :=
  ∀ sz : Nat, Met l y (wsA y cc maxL ret) (rmL lv 0 0) (va_Pc av (PreW D tc dz ad Ks st sz)) (va_Qf (fun (x : UInt32) (_ : Unit) => x = r) (fun _ t => Hw D ad Ks st' t.heap) (wA ad Ks sz)) 0 0 (wA ad Ks sz)
def MV (l : Launch) (y : MethodName) (cc : ByteArray) (maxL : Nat) (lv : Nat) (D : va_G) (tc : TC) (dz : Nat) (ad : KN → Nat) (Ks : List KN) (st : KN → va_E) (av : List Value) (st' : KN → va_E) : Prop :=
  ∀ sz : Nat, Met l y (wsA y cc maxL none) (rmL lv 0 0) (va_Pc av (PreW D tc dz ad Ks st sz)) (va_Qv (fun (_ : Unit) => True) (fun _ t => Hw D ad Ks st' t.heap) (wA ad Ks sz)) 0 0 (wA ad Ks sz)
def MR (l : Launch) (y : MethodName) (cc : ByteArray) (maxL : Nat) (ret : Option FieldType) (lv : Nat) (D : va_G) (tc : TC) (dz : Nat) (ad : KN → Nat) (Ks : List KN) (st : KN → va_E) (av : List Value) (r : Option Nat) (st' : KN → va_E) : Prop :=
  ∀ sz : Nat, Met l y (wsA y cc maxL ret) (rmL lv 0 0) (va_Pc av (PreW D tc dz ad Ks st sz)) (va_Qq (fun (x : Option Nat) (_ : Unit) => x = r) (fun _ t => Hw D ad Ks st' t.heap) (wA ad Ks sz)) 0 0 (wA ad Ks sz)
/-- a method's body, from its entry -/
theorem x_ofW {l : Launch} {y : MethodName} {cc : ByteArray} {maxL : Nat} {ret : Option FieldType} {rm : Room} {av : List Value} {Qc : Array Value → State → Outcome → State → Prop} {mc ms : Nat} {free : Addr → Prop} {D : va_G} {tc : TC} {dz : Nat} {ad : KN → Nat} {Ks : List KN} {st : KN → va_E} {sz : Nat}
    (hy : plainName y.cls = true) (hav : (lg_sl av).length ≤ maxL)
    (body : ∀ (p : Program) (e : Env) (s : State) (m : MethodId) (below : List Frame) (meth : Method) (c : Code) (ls : Array Slot), Cx p s m av.toArray meth c cc y.cls maxL D tc dz (wA ad Ks s.heap.size) → meth.sig.returnType = ret → meth.name = y.name → s.heap.size = sz → Sx D (wA ad Ks s.heap.size) ad Ks st s s.heap [] → lv_has ls maxL (lv_args 0 av) →
      W p l e rm s m av.toArray below meth c s.heap [] 0 0 (MQ below Qc av.toArray s mc ms free) (F0 m 0 ls [])) :
    Met l y (wsA y cc maxL ret) rm (va_Pc av (PreW D tc dz ad Ks st sz)) Qc mc ms free := by
  refine Met.ofW (cc := cc) (maxL := maxL) (ret := ret) hy rfl ?_
  intro p e s m args below meth c s₁ B hml hv
  obtain ⟨rfl, hsz, hw, hd, hK, hN, hZ⟩ := hv
  have hts0 := atoms_spec (ws := wsA y cc maxL ret) B.pre
  have hown : s.vm.findClass y.cls = some m.cls := findClass_of_methodNamed B.named
  subst hsz
  rw [lg_entry_eq]
  refine body p e s m below meth c _ ⟨⟨B.exec, B.bytes, hml, hown, fun w hw => hts0 w (List.mem_cons_of_mem _ hw)⟩, B.notSynchronized, hK, hN, hZ, fun q h => Or.inr h⟩ B.returns (name_of_methodNamed B.named B.method).1 rfl ⟨hw, ⟨hd.1, hd.2.1, fun k hk => Or.inl ⟨k, hk, rfl⟩⟩, va_S.rf⟩ (lv_entry av hav)
section CALLS
variable {p : Program} {l : Launch} {e : Env} {R : Room} {s : State} {m : MethodId} {args : Array Value} {below : List Frame} {meth : Method} {c : Code} {H : Heap} {locs : List Loc} {cells slots : Nat} {Q : State → Prop}
variable {cc : ByteArray} {own : String} {nL : Nat} {D : va_G} {tc : TC} {dz : Nat} {A : Nat → Prop} {ad : KN → Nat} {Ks : List KN} {st : KN → va_E} {pc : Nat} {ls : Array Slot} {rest : List Value}
theorem x_iret (X : Cx p s m args meth c cc own nL D tc dz (wA ad Ks s.heap.size)) {st' : KN → va_E} (h : Sx D (wA ad Ks s.heap.size) ad Ks st s H locs) {ty : FieldType} (hr : meth.sig.returnType = some ty) {v r : Int32} (hn : narrow ty (.int v) = .int v) (hv : v = r) (he : ∀ k, k ∈ Ks → st k = st' k) (hdg : decode cc pc = .ok (.ireturn, 1)) :
    W p l e R s m args below meth c H locs cells slots (MQ below (va_Qi (fun (x : Int32) (_ : Unit) => x = r) (fun _ t => Hw D ad Ks st' t.heap) (wA ad Ks s.heap.size)) args s cells slots (wA ad Ks s.heap.size)) (F0 m pc ls [.int v]) := by
  obtain ⟨⟨hx, hb, -, hown, hts⟩, hlocks, -⟩ := X
  exact W.zret hx hb hr hn (fun t ht hW => ⟨⟨v, (), rfl, hv, (h.1.congr he).onto ht⟩, h.2.2.F ht⟩) h.2.2.2.2 hdg hlocks
theorem x_fret (X : Cx p s m args meth c cc own nL D tc dz (wA ad Ks s.heap.size)) {st' : KN → va_E} (h : Sx D (wA ad Ks s.heap.size) ad Ks st s H locs) (hr : meth.sig.returnType = some .float) {v r : UInt32} (hv : v = r) (he : ∀ k, k ∈ Ks → st k = st' k) (hdg : decode cc pc = .ok (.freturn, 1)) :
    W p l e R s m args below meth c H locs cells slots (MQ below (va_Qf (fun (x : UInt32) (_ : Unit) => x = r) (fun _ t => Hw D ad Ks st' t.heap) (wA ad Ks s.heap.size)) args s cells slots (wA ad Ks s.heap.size)) (F0 m pc ls [.float v]) := by
  obtain ⟨⟨hx, hb, -, hown, hts⟩, hlocks, -⟩ := X
  exact W.fret hx hb hr (fun t ht hW => ⟨⟨v, (), rfl, hv, (h.1.congr he).onto ht⟩, h.2.2.F ht⟩) h.2.2.2.2 hdg hlocks
theorem x_vret (X : Cx p s m args meth c cc own nL D tc dz (wA ad Ks s.heap.size)) {st' : KN → va_E} (h : Sx D (wA ad Ks s.heap.size) ad Ks st s H locs) (hr : meth.sig.returnType = none) (he : ∀ k, k ∈ Ks → st k = st' k) (hdg : decode cc pc = .ok (.return_, 1)) :
    W p l e R s m args below meth c H locs cells slots (MQ below (va_Qv (fun (_ : Unit) => True) (fun _ t => Hw D ad Ks st' t.heap) (wA ad Ks s.heap.size)) args s cells slots (wA ad Ks s.heap.size)) (F0 m pc ls []) := by
  obtain ⟨⟨hx, hb, -, hown, hts⟩, hlocks, -⟩ := X
  exact W.vret hx hb hr (fun t ht hW => ⟨⟨(), rfl, trivial, (h.1.congr he).onto ht⟩, h.2.2.F ht⟩) h.2.2.2.2 hdg hlocks
theorem x_aret (X : Cx p s m args meth c cc own nL D tc dz (wA ad Ks s.heap.size)) {st' : KN → va_E} (h : Sx D (wA ad Ks s.heap.size) ad Ks st s H locs) {rt : FieldType} (hr : meth.sig.returnType = some rt) (hrt : (∃ n, rt = .object n) ∨ ∃ t, rt = .array t) {v : Value} {r : Option Nat} (hv : v = va_rf r) (he : ∀ k, k ∈ Ks → st k = st' k) (hdg : decode cc pc = .ok (.areturn, 1)) :
    W p l e R s m args below meth c H locs cells slots (MQ below (va_Qq (fun (x : Option Nat) (_ : Unit) => x = r) (fun _ t => Hw D ad Ks st' t.heap) (wA ad Ks s.heap.size)) args s cells slots (wA ad Ks s.heap.size)) (F0 m pc ls [v]) := by
  obtain ⟨⟨hx, hb, -, hown, hts⟩, hlocks, -⟩ := X
  exact W.aret hx hb hr hrt (by rw [hv]; exact va_rf_or r) (fun t ht hW => ⟨⟨r, (), by rw [hv], rfl, (h.1.congr he).onto ht⟩, h.2.2.F ht⟩) h.2.2.2.2 hdg hlocks
/-- what a caller's room and words say of a call of y -/
theorem x_cb (X : Cx p s m args meth c cc own nL D tc dz A) {y : MethodName} {bytes : ByteArray} {maxL n lv mc ms index : Nat} {ret : Option FieldType} (F : YF y bytes maxL ret n) (w1 : Cond.methodLink own index y ∈ AW) (hf : lv + 1 ≤ R.frames) (hlo : 8 + (maxL + 11) + 32 * lv ≤ R.locals) : CallB R s args own index y bytes maxL ret (wsA y bytes maxL ret) (rmL lv mc ms) mc ms n := by
  obtain ⟨⟨hx, hb, -, hown, hts⟩, -⟩ := X
  exact callB_of n hts (goodIn_A F.1) rfl rfl rfl (hts _ F.2.1) (hts _ w1) F.2.2 ⟨hf, hlo⟩
theorem x_cn (X : Cx p s m args meth c cc own nL D tc dz A) {y : MethodName} {bytes : ByteArray} {maxL n lv mc ms index : Nat} {host : String} {ret : Option FieldType} (F : YF y bytes maxL ret n) (w1 : Cond.methodLinkNest own index y host ∈ lw_tbl) (hf : lv + 1 ≤ R.frames) (hlo : 8 + (maxL + 11) + 32 * lv ≤ R.locals) : va_CN R s args own index y host bytes maxL ret (wsA y bytes maxL ret) (rmL lv mc ms) mc ms n := by
  obtain ⟨⟨hx, hb, -, hown, hts⟩, -, -, hN, -⟩ := X
  exact va_cnB n hts (goodIn_A F.1) rfl rfl rfl (hN.1 _ _ _ _ w1) (hts _ F.2.1) F.2.2 ⟨hf, hlo⟩
theorem x_recv (X : Cx p s m args meth c cc own nL D tc dz A) (h : Sx D A ad Ks st s H locs) {k : KN} (hk : k ∈ Ks) {ci : Nat} {fs : List Value} {q : vw_C} (he : st k = .inr (ci, fs)) (hc : vwCl[ci]? = some q) : ∃ cell : Cell, H[ad k]? = some cell ∧ cell.vm.isStatics = false ∧ s.vm.findClass q.1 = some cell.cls := by
  obtain ⟨i, hi⟩ := List.getElem?_of_mem hk
  have hi2 := wl_at (ad := ad) (st := st) hi
  rw [he] at hi2
  exact va_recv X.2.2.1 h.1.P hc hi2
variable {y : MethodName} {bytes : ByteArray} {maxL n lv mc ms index : Nat} {ret : Option FieldType} {As : List Value} {Qc : Array Value → State → Outcome → State → Prop} {free : Addr → Prop}
/-- the runs: a virtual, a static, a nest mate's static, a constructor, a nest mate's constructor -/
theorem x_runV (X : Cx p s m args meth c cc own nL D tc dz A) (h : Sx D A ad Ks st s H locs) {k : KN} {ci : Nat} {fs : List Value} {q : vw_C} (hM : Met l y (wsA y bytes maxL ret) (rmL lv mc ms) (va_Pc (.ref (ad k) :: As) (PreW D tc dz ad Ks st H.size)) Qc mc ms free) (F : YF y bytes maxL ret n) (w1 : Cond.methodLink own index y ∈ AW) (w2 : Cond.instanceMethod y ∈ AW) (w3 : Cond.selects q.1 y y ∈ AW) (hk : k ∈ Ks) (he : st k = .inr (ci, fs)) (hc : vwCl[ci]? = some q) (hn : As.length = n) (hf : lv + 1 ≤ R.frames) (hlo : 8 + (maxL + 11) + 32 * lv ≤ R.locals) (hcl : cells + mc ≤ R.cells ∧ slots + ms ≤ R.slots) (hsize : ls.size = nL) (hcat : (rest.map fun v => v.category).sum ≤ 8) (hdg : decode cc pc = .ok (.invokevirtual index, 3)) {st0 : List Value} (hst : st0 = As.reverse ++ .ref (ad k) :: rest) :
    va_Run p l e R s m args below meth c H locs cells slots mc ms (F0 m pc ls st0) rest (Qc (Value.ref (ad k) :: As).toArray) free := by
  exact va_runV (C := q.1) X.1 hM ⟨x_cb X F w1 hf hlo, X.1.2.2.2.2 _ w2, X.1.2.2.2.2 _ w3⟩ ⟨PreW.blind, x_recv X h hk he hc, fun U hU hW => ⟨rfl, PreW.of X h U hU hW⟩⟩ rfl hn hsize hst (lv_room hcat) hdg hcl
theorem x_runS (X : Cx p s m args meth c cc own nL D tc dz A) (h : Sx D A ad Ks st s H locs) (hM : Met l y (wsA y bytes maxL ret) (rmL lv mc ms) (va_Pc As (PreW D tc dz ad Ks st H.size)) Qc mc ms free) (F : YF y bytes maxL ret n) (w1 : Cond.methodLink own index y ∈ AW) (w2 : Cond.static y ∈ AW) (hn : As.length = n) (hf : lv + 1 ≤ R.frames) (hlo : 8 + (maxL + 11) + 32 * lv ≤ R.locals) (hcl : cells + mc ≤ R.cells ∧ slots + ms ≤ R.slots) (hsize : ls.size = nL) (hcat : (rest.map fun v => v.category).sum ≤ 8) (hdg : decode cc pc = .ok (.invokestatic index, 3)) {st0 : List Value} (hst : st0 = As.reverse ++ rest) :
    va_Run p l e R s m args below meth c H locs cells slots mc ms (F0 m pc ls st0) rest (Qc As.toArray) free := by
  exact va_runS X.1 hM ⟨x_cb X F w1 hf hlo, X.1.2.2.2.2 _ w2⟩ ⟨PreW.blind, fun U hU hW => ⟨rfl, PreW.of X h U hU hW⟩⟩ rfl hn hsize hst (lv_room hcat) hdg hcl
theorem x_runSN {host : String} (X : Cx p s m args meth c cc own nL D tc dz A) (h : Sx D A ad Ks st s H locs) (hM : Met l y (wsA y bytes maxL ret) (rmL lv mc ms) (va_Pc As (PreW D tc dz ad Ks st H.size)) Qc mc ms free) (F : YF y bytes maxL ret n) (w1 : Cond.methodLinkNest own index y host ∈ lw_tbl) (w2 : Cond.static y ∈ AW) (hn : As.length = n) (hf : lv + 1 ≤ R.frames) (hlo : 8 + (maxL + 11) + 32 * lv ≤ R.locals) (hcl : cells + mc ≤ R.cells ∧ slots + ms ≤ R.slots) (hsize : ls.size = nL) (hcat : (rest.map fun v => v.category).sum ≤ 8) (hdg : decode cc pc = .ok (.invokestatic index, 3)) {st0 : List Value} (hst : st0 = As.reverse ++ rest) :
    va_Run p l e R s m args below meth c H locs cells slots mc ms (F0 m pc ls st0) rest (Qc As.toArray) free := by
  exact va_runSN X.1 hM ⟨x_cn X F w1 hf hlo, X.1.2.2.2.2 _ w2, trivial⟩ ⟨PreW.blind, fun U hU hW => ⟨rfl, PreW.of X h U hU hW⟩⟩ rfl hn hsize hst (lv_room hcat) hdg hcl
/-- behind a call that keeps the names at their places -/
theorem x_doneI (X : Cx p s m args meth c cc own nL D tc dz A) (h : Sx D A ad Ks st s H locs) {st' : KN → va_E} {r : Int32} {st0 : List Value} {a : Array Value} (hr : va_Run p l e R s m args below meth c H locs cells slots mc ms (F0 m pc ls st0) rest (va_Qi (fun (x : Int32) (_ : Unit) => x = r) (fun _ t => Hw D ad Ks st' t.heap) (wA ad Ks H.size) a) (wA ad Ks H.size))
    (kk : ∀ (H1 : Heap) (locs1 : List Loc), Sx D A ad Ks st' s H1 locs1 → W p l e R s m args below meth c H1 locs1 (cells + mc) (slots + ms) Q (F0 m (pc + 3) ls (.int r :: rest))) : W p l e R s m args below meth c H locs cells slots Q (F0 m pc ls st0) := by
  have hA := wA_sub h.2.1 h.2.2 X.2.2.2.2.2
  refine va_calli hr h.2.2 (fun q _ hq => hA q hq) hA (fun r1 u t H1 locs1 ht hvm hp hB hz hk hS => ?_)
  subst hp
  exact kk H1 locs1 ⟨ht ▸ hB, h.2.1, hS⟩
theorem x_doneF (X : Cx p s m args meth c cc own nL D tc dz A) (h : Sx D A ad Ks st s H locs) {st' : KN → va_E} {r : UInt32} {st0 : List Value} {a : Array Value} (hr : va_Run p l e R s m args below meth c H locs cells slots mc ms (F0 m pc ls st0) rest (va_Qf (fun (x : UInt32) (_ : Unit) => x = r) (fun _ t => Hw D ad Ks st' t.heap) (wA ad Ks H.size) a) (wA ad Ks H.size))
    (kk : ∀ (H1 : Heap) (locs1 : List Loc), Sx D A ad Ks st' s H1 locs1 → W p l e R s m args below meth c H1 locs1 (cells + mc) (slots + ms) Q (F0 m (pc + 3) ls (.float r :: rest))) : W p l e R s m args below meth c H locs cells slots Q (F0 m pc ls st0) := by
  have hA := wA_sub h.2.1 h.2.2 X.2.2.2.2.2
  refine va_callf hr h.2.2 (fun q _ hq => hA q hq) hA (fun r1 u t H1 locs1 ht hvm hp hB hz hk hS => ?_)
  subst hp
  exact kk H1 locs1 ⟨ht ▸ hB, h.2.1, hS⟩
theorem x_doneV (X : Cx p s m args meth c cc own nL D tc dz A) (h : Sx D A ad Ks st s H locs) {st' : KN → va_E} {st0 : List Value} {a : Array Value} (hr : va_Run p l e R s m args below meth c H locs cells slots mc ms (F0 m pc ls st0) rest (va_Qv (fun (_ : Unit) => True) (fun _ t => Hw D ad Ks st' t.heap) (wA ad Ks H.size) a) (wA ad Ks H.size))
    (kk : ∀ (H1 : Heap) (locs1 : List Loc), Sx D A ad Ks st' s H1 locs1 → W p l e R s m args below meth c H1 locs1 (cells + mc) (slots + ms) Q (F0 m (pc + 3) ls rest)) : W p l e R s m args below meth c H locs cells slots Q (F0 m pc ls st0) := by
  have hA := wA_sub h.2.1 h.2.2 X.2.2.2.2.2
  refine va_callv hr h.2.2 (fun q _ hq => hA q hq) hA (fun u t H1 locs1 ht hvm hp hB hz hk hS => ?_)
  exact kk H1 locs1 ⟨ht ▸ hB, h.2.1, hS⟩
theorem x_doneR (X : Cx p s m args meth c cc own nL D tc dz A) (h : Sx D A ad Ks st s H locs) {st' : KN → va_E} {r : Option Nat} {st0 : List Value} {a : Array Value} (hr : va_Run p l e R s m args below meth c H locs cells slots mc ms (F0 m pc ls st0) rest (va_Qq (fun (x : Option Nat) (_ : Unit) => x = r) (fun _ t => Hw D ad Ks st' t.heap) (wA ad Ks H.size) a) (wA ad Ks H.size))
    (kk : ∀ (H1 : Heap) (locs1 : List Loc), Sx D A ad Ks st' s H1 locs1 → W p l e R s m args below meth c H1 locs1 (cells + mc) (slots + ms) Q (F0 m (pc + 3) ls (va_rf r :: rest))) : W p l e R s m args below meth c H locs cells slots Q (F0 m pc ls st0) := by
  have hA := wA_sub h.2.1 h.2.2 X.2.2.2.2.2
  refine va_callq hr h.2.2 (fun q _ hq => hA q hq) hA (fun r1 u t H1 locs1 ht hvm hp hB hz hk hS => ?_)
  subst hp
  exact kk H1 locs1 ⟨ht ▸ hB, h.2.1, hS⟩
end CALLS
