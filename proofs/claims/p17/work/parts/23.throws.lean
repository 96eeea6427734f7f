/-! throws: contracts of calls that are sure to throw; the world is as before -/
abbrev nmsX : List String := ["java/lang/RuntimeException", "java/lang/Exception"]
abbrev dcL : List Cond := [Cond.declares ⟨"java/lang/RuntimeException", "<init>", "()V"⟩, Cond.declares ⟨"java/lang/RuntimeException", "<init>", "(Ljava/lang/String;)V"⟩, Cond.declares ⟨"java/lang/Exception", "<init>", "()V"⟩, Cond.declares ⟨"java/lang/Exception", "<init>", "(Ljava/lang/String;)V"⟩, Cond.declares ⟨"java/lang/Throwable", "<init>", "()V"⟩, Cond.declares ⟨"java/lang/Throwable", "<init>", "(Ljava/lang/String;)V"⟩]
def EXF (E : String) (ik ic : Nat) : Prop := Bundle.fit E = true ∧ Cond.classLink RX6 ik E ∈ AW ∧ Cond.initialized E ∈ AW ∧ (∀ w ∈ (vx_atS RX6 ic E nmsX).filter goodWord, w ∈ lw_tbl) ∧ (∀ w ∈ (vx_atS RX6 ic E nmsX).filter (fun w => !goodWord w), w ∈ Cond.castable E E :: dcL) ∧ Cond.castable E E ∈ lw_tbl ∧ ∀ w ∈ Cond.classLink RX6 ik E :: Cond.initialized E :: vx_atS RX6 ic E nmsX, vx_ot w = true
abbrev xX (E : String) (D : va_G) (ad : KN → Nat) (Ks : List KN) (st : KN → va_E) (A : Nat → Prop) : String → State → State → Prop := vx_X (fun (_ : Unit) => True) (fun E' _ t => E' = E ∧ Hw D ad Ks st t.heap) A
abbrev qN : Array Value → State → Outcome → State → Prop := fun _ _ _ _ => False
def MX (l : Launch) (y : MethodName) (cc : ByteArray) (maxL : Nat) (ret : Option FieldType) (lv : Nat) (D : va_G) (tc : TC) (dz : Nat) (ad : KN → Nat) (Ks : List KN) (st : KN → va_E) (av : List Value) (E : String) : Prop :=
  ∀ sz : Nat, vx_Met l y (wsA y cc maxL ret) (rmL lv 1 6) (va_Pc av (PreW D tc dz ad Ks st sz)) qN (xX E D ad Ks st (wA ad Ks sz)) 1 6 (wA ad Ks sz)
theorem x_ofX {l : Launch} {y : MethodName} {cc : ByteArray} {maxL : Nat} {ret : Option FieldType} {rm : Room} {av : List Value} {XC : String → State → State → Prop} {Qc : Array Value → State → Outcome → State → Prop} {mc ms : Nat} {free : Addr → Prop} {D : va_G} {tc : TC} {dz : Nat} {ad : KN → Nat} {Ks : List KN} {st : KN → va_E} {sz : Nat}
    (hy : plainName y.cls = true) (hav : (lg_sl av).length ≤ maxL)
    (body : ∀ (p : Program) (e : Env) (s : State) (m : MethodId) (below : List Frame) (meth : Method) (c : Code) (ls : Array Slot), Cx p s m av.toArray meth c cc y.cls maxL D tc dz (wA ad Ks s.heap.size) → (∀ x ∈ c.exceptionTable.toList, False) → s.heap.size = sz → Sx D (wA ad Ks s.heap.size) ad Ks st s s.heap [] → lv_has ls maxL (lv_args 0 av) →
      W p l e rm s m av.toArray below meth c s.heap [] 0 0 (vx_MQ below Qc XC av.toArray s mc ms free) (F0 m 0 ls [])) :
    vx_Met l y (wsA y cc maxL ret) rm (va_Pc av (PreW D tc dz ad Ks st sz)) Qc XC mc ms free := by
  refine vx_ofW (cc := cc) (maxL := maxL) (ret := ret) hy rfl ?_
  intro p e s m args below meth c s₁ B hml htab hv
  obtain ⟨rfl, hsz, hw, hd, hK, hN, hZ⟩ := hv
  have hts0 := atoms_spec (ws := wsA y cc maxL ret) B.pre
  have hown : s.vm.findClass y.cls = some m.cls := findClass_of_methodNamed B.named
  subst hsz
  rw [lg_entry_eq]
  refine body p e s m below meth c _ ⟨⟨B.exec, B.bytes, hml, hown, fun w hw => hts0 w (List.mem_cons_of_mem _ hw)⟩, B.notSynchronized, hK, hN, hZ, fun q h => Or.inr h⟩ htab rfl ⟨hw, ⟨hd.1, hd.2.1, fun k hk => Or.inl ⟨k, hk, rfl⟩⟩, va_S.rf⟩ (lv_entry av hav)
section THROWS
variable {p : Program} {l : Launch} {e : Env} {R : Room} {s : State} {m : MethodId} {args : Array Value} {below : List Frame} {meth : Method} {c : Code} {H : Heap} {locs : List Loc} {cells slots : Nat} {Q : State → Prop}
variable {cc : ByteArray} {own : String} {nL : Nat} {D : va_G} {tc : TC} {dz : Nat} {A : Nat → Prop} {ad : KN → Nat} {Ks : List KN} {st : KN → va_E} {pc : Nat} {ls : Array Slot} {rest : List Value}
theorem Hw.grown {H1 : Heap} (h : Hw D ad Ks st H) (hk : ∀ q : Nat, q < H.size → H1[q]? = H[q]?) : Hw D ad Ks st H1 := fun k hk' => (h k hk').kept (hk _ (h k hk').lt)
theorem x_throw (X : Cx p s m args meth c cc RX6 nL D tc dz A) (h : Sx D A ad Ks st s H locs) (hl : l.stackTraces = false) {E text : String} {ik is ic : Nat} (hE : EXF E ik ic) (hstr : Cond.stringRef RX6 is text ∈ lw_tbl) (hsize : ls.size = nL) (htab : ∀ x ∈ c.exceptionTable.toList, False)
    (d0 : decode cc pc = .ok (.new ik, 3)) (d3 : decode cc (pc + 3) = .ok (.dup, 1)) (d4 : decode cc (pc + 4) = .ok (.ldc is, 2)) (d6 : decode cc (pc + 6) = .ok (.invokespecial ic, 3)) (d9 : decode cc (pc + 9) = .ok (.athrow, 1))
    (hf : 5 < R.frames) (hlo : (rest.map fun v => v.category).sum + 82 ≤ R.locals) (hc : cells + 1 ≤ R.cells) (hs : slots + 6 ≤ R.slots) (hc1 : cells + 1 ≤ 1) (hs1 : slots + 6 ≤ 6) :
    W p l e R s m args below meth c H locs cells slots (vx_MQ below qN (xX E D ad Ks st A) args s 1 6 A) (F0 m pc ls rest) := by
  obtain ⟨⟨hx, hb, hml, hown, hts⟩, hlocks, hK, hN, hZ, hA⟩ := X
  obtain ⟨sa, hsa⟩ := hN.2.2.2.1 _ _ _ hstr
  obtain ⟨e1, e2, e3, e4, e5, e7, e6⟩ := hE
  have hdc : ∀ w ∈ Cond.castable E E :: dcL, w.before args s = true := by
    have u : ∀ x, Cond.declares x ∈ lw_tbl → (Cond.declares x).before args s = true := fun x hx9 => va_Nw.use rfl (hN.2.2.1 x hx9)
    exact vx_c (va_Nw.use rfl (hN.2.1 _ _ e7)) (vx_c (u _ t211) (vx_c (u _ t212) (vx_c (u _ t213) (vx_c (u _ t214) (vx_c (u _ t215) (vx_c (u _ t216) vx_n))))))
  have hnf : ∀ n ∈ nmsX, Bundle.fit n = true := by decide +kernel
  refine vx_throwS (names := nmsX) (text := text) (sa := sa) hx hb hl hown e1 hnf (hts _ e2) (hts _ e3) hsa (vx_hat (fun w hw => hts w (List.mem_filter.mpr ⟨e4 w hw, (List.mem_filter.mp hw).2⟩)) e5 hdc) e6 hZ.1 hZ.2.1 h.2.2 (hsize.trans hml.symm) d0 d3 d4 d6 d9 (fun x hx9 => (htab x hx9).elim) hf hlo hc hs hlocks (fun t hvm hz hk => ?_) h.2.2.2.2 hc1 hs1
  exact ⟨(), trivial, ⟨rfl, h.1.grown hk⟩, Nat.le_trans h.2.2.1 hz, fun q h1 h2 => (hk q (Nat.lt_of_lt_of_le h1 h.2.2.1)).trans (h.2.2.2.1 q h1 h2)⟩
variable {y : MethodName} {bytes : ByteArray} {maxL n lv mc ms index : Nat} {ret : Option FieldType} {As : List Value} {Qc : Array Value → State → Outcome → State → Prop} {XC : String → State → State → Prop} {free : Addr → Prop}
theorem x_xrunV (X : Cx p s m args meth c cc own nL D tc dz A) (h : Sx D A ad Ks st s H locs) {k : KN} {ci : Nat} {fs : List Value} {q : vw_C} (hM : vx_Met l y (wsA y bytes maxL ret) (rmL lv mc ms) (va_Pc (.ref (ad k) :: As) (PreW D tc dz ad Ks st H.size)) Qc XC mc ms free) (F : YF y bytes maxL ret n) (w1 : Cond.methodLink own index y ∈ AW) (w2 : Cond.instanceMethod y ∈ AW) (w3 : Cond.selects q.1 y y ∈ AW) (hk : k ∈ Ks) (he : st k = .inr (ci, fs)) (hc : vwCl[ci]? = some q) (hn : As.length = n) (hf : lv + 1 ≤ R.frames) (hlo : 8 + (maxL + 11) + 32 * lv ≤ R.locals) (hcl : cells + mc ≤ R.cells ∧ slots + ms ≤ R.slots) (hsize : ls.size = nL) (hcat : (rest.map fun v => v.category).sum ≤ 8) (hdg : decode cc pc = .ok (.invokevirtual index, 3)) {st0 : List Value} (hst : st0 = As.reverse ++ .ref (ad k) :: rest) :
    vx_Run p l e R s m args below meth c H locs cells slots mc ms (F0 m pc ls st0) rest (Qc (Value.ref (ad k) :: As).toArray) XC free := by
  exact vx_runV (C := q.1) X.1 hM ⟨x_cb X F w1 hf hlo, X.1.2.2.2.2 _ w2, X.1.2.2.2.2 _ w3⟩ ⟨PreW.blind, x_recv X h hk he hc, fun U hU hW => ⟨rfl, PreW.of X h U hU hW⟩⟩ rfl hn hsize hst (lv_room hcat) hdg hcl
theorem x_xrunS (X : Cx p s m args meth c cc own nL D tc dz A) (h : Sx D A ad Ks st s H locs) (hM : vx_Met l y (wsA y bytes maxL ret) (rmL lv mc ms) (va_Pc As (PreW D tc dz ad Ks st H.size)) Qc XC mc ms free) (F : YF y bytes maxL ret n) (w1 : Cond.methodLink own index y ∈ AW) (w2 : Cond.static y ∈ AW) (hn : As.length = n) (hf : lv + 1 ≤ R.frames) (hlo : 8 + (maxL + 11) + 32 * lv ≤ R.locals) (hcl : cells + mc ≤ R.cells ∧ slots + ms ≤ R.slots) (hsize : ls.size = nL) (hcat : (rest.map fun v => v.category).sum ≤ 8) (hdg : decode cc pc = .ok (.invokestatic index, 3)) {st0 : List Value} (hst : st0 = As.reverse ++ rest) :
    vx_Run p l e R s m args below meth c H locs cells slots mc ms (F0 m pc ls st0) rest (Qc As.toArray) XC free := by
  exact vx_runS X.1 hM ⟨x_cb X F w1 hf hlo, X.1.2.2.2.2 _ w2⟩ ⟨PreW.blind, fun U hU hW => ⟨rfl, PreW.of X h U hU hW⟩⟩ rfl hn hsize hst (lv_room hcat) hdg hcl
/-- behind a call that is sure to throw E -/
theorem x_xdone (X : Cx p s m args meth c cc own nL D tc dz A) (h : Sx D A ad Ks st s H locs) {E : String} {st' : KN → va_E} {st0 : List Value} (hr : vx_Run p l e R s m args below meth c H locs cells slots mc ms (F0 m pc ls st0) rest (fun _ _ _ => False) (xX E D ad Ks st' (wA ad Ks H.size)) (wA ad Ks H.size))
    (kx : ∀ (ce : Cell) (q9 : Addr) (H1 : Heap) (locs1 : List Loc), Sx D A ad Ks st' s H1 locs1 → H1[q9]? = some ce → ce.vm = .none → s.vm.findClass E = some ce.cls → vx_W p l e R s m args below meth c H1 locs1 (cells + mc) (slots + ms) Q (F0 m pc ls rest) q9) : W p l e R s m args below meth c H locs cells slots Q (F0 m pc ls st0) := by
  have hA := wA_sub h.2.1 h.2.2 X.2.2.2.2.2
  intro T hT X0
  rcases hr T hT X0 with ⟨v, st₀, t, T', L, h0, X', hL, e1, e2, hF, -⟩ | ⟨q, st₀, t, T', L, E1, ce, h0, X', hL, e1, e2, ⟨u, hp, hb, hF⟩, hce, hcv, hcl, st2⟩
  · exact hF.elim
  · obtain ⟨k1, k2, k3⟩ := vx_keep h0 e1 h.2.2 (fun q _ hq => hA q hq) hA hL hF
    obtain ⟨rfl, hw⟩ := hb
    obtain ⟨t2, a1, b1⟩ := kx ce q T'.heap (locs ++ L) ⟨hw.onto e1, h.2.1, k3⟩ (by rw [e1]; exact hce) hcv hcl T' rfl X'
    exact ⟨t2, st2.trans a1, b1⟩
/-- on to the caller -/
theorem x_xout (X : Cx p s m args meth c cc own nL D tc dz A) (h : Sx D A ad Ks st s H locs) {E : String} {ce : Cell} {q : Addr} (htab : ∀ x ∈ c.exceptionTable.toList, False) (hcell : H[q]? = some ce) (hv : ce.vm = .none) (hcl : s.vm.findClass E = some ce.cls) {mc ms : Nat} (hc : cells ≤ mc) (hs : slots ≤ ms) :
    vx_W p l e R s m args below meth c H locs cells slots (vx_MQ below Qc (xX E D ad Ks st A) args s mc ms A) (F0 m pc ls rest) q := by
  exact vx_out (fun x hx9 => (htab x hx9).elim) X.2.1 hcell hv hcl (fun t ht hvm => ⟨(), trivial, ⟨rfl, h.1.onto ht⟩, h.2.2.F ht⟩) h.2.2.2.2 hc hs
end THROWS
theorem EX_I : EXF exI 96 100 := ⟨by decide +kernel, q208, q18, by decide +kernel, by decide +kernel, t210, by decide +kernel⟩
theorem EX_S : EXF exS 34 38 := ⟨by decide +kernel, q386, q27, by decide +kernel, by decide +kernel, t388, by decide +kernel⟩
theorem EX_A : EXF exA 59 63 := ⟨by decide +kernel, q441, q28, by decide +kernel, by decide +kernel, t443, by decide +kernel⟩
