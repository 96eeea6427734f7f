/-! calls' ends told by the layout; the law's own methods -/
def OutW (tc : TC) (dz : Nat) (ad : KN → Nat) (Ks : List KN) (Ψ : GM → Mem → Prop) (u : WS) : Prop :=
  ∃ (gm1 : GM) (I1 : Mem), Ψ gm1 I1 ∧ LV gm1 u.2.1 ∧ LW gm1 u.2.1 ∧ GM2 gm1 ∧ (∀ k, k ∈ Ks → k.1 ≠ 8 → u.1 k = ad k) ∧ ∀ k, k ∈ u.2.1 → u.2.2 k = lay tc u.1 gm1 dz I1 k
theorem OutW.imp {tc : TC} {dz : Nat} {ad : KN → Nat} {Ks : List KN} {Ψ Ψ1 : GM → Mem → Prop} {u : WS} (h : OutW tc dz ad Ks Ψ u) (hi : ∀ gm1 I1, Ψ gm1 I1 → Ψ1 gm1 I1) : OutW tc dz ad Ks Ψ1 u := by
  obtain ⟨gm1, I1, h1, h2⟩ := h
  exact ⟨gm1, I1, hi _ _ h1, h2⟩
theorem OutW.same {tc : TC} {dz : Nat} {ad : KN → Nat} {Ks : List KN} {gm : GM} {I : Mem} (hL : LV gm Ks) (hW : LW gm Ks) (hG2 : GM2 gm) : OutW tc dz ad Ks (fun gm1 I1 => gm1 = gm ∧ I1 = I) (ad, Ks, lay tc ad gm dz I) :=
  ⟨gm, I, ⟨rfl, rfl⟩, hL, hW, hG2, fun _ _ _ => rfl, fun _ _ => rfl⟩
theorem met_imp {l : Launch} {y : MethodName} {ws : List Cond} {rm : Room} {Pc : Array Value → State → Prop} {Qc Qd : Array Value → State → Outcome → State → Prop} {mc ms : Nat} {free : Addr → Prop} (h : Met l y ws rm Pc Qc mc ms free) (hi : ∀ a st o t, Qc a st o t → Qd a st o t) : Met l y ws rm Pc Qd mc ms free := by
  intro p e h1 h2 h3 s m args below h4 h5 h6 h7
  obtain ⟨n, o, a1, a2, a3, a4, a5⟩ := h p e h1 h2 h3 s m args below h4 h5 h6 h7
  exact ⟨n, o, a1, a2, a3, hi _ _ _ _ a4, a5⟩
theorem xmet_imp {l : Launch} {y : MethodName} {ws : List Cond} {rm : Room} {Pc : Array Value → State → Prop} {Qc : Array Value → State → Outcome → State → Prop} {XC XD : String → State → State → Prop} {mc ms : Nat} {free : Addr → Prop} (h : vx_Met l y ws rm Pc Qc XC mc ms free) (hi : ∀ E st t, XC E st t → XD E st t) : vx_Met l y ws rm Pc Qc XD mc ms free := by
  intro p e h1 h2 h3 s m args below h4 h5 h6 h7
  obtain ⟨n, o, a1, a2, a3, a4⟩ := h p e h1 h2 h3 s m args below h4 h5 h6 h7
  refine ⟨n, o, a1, a2, a3, ?_⟩
  rcases a4 with a4 | ⟨q, b1, E, ce, L9, b2, b3⟩
  · exact Or.inl a4
  · exact Or.inr ⟨q, b1, E, ce, L9, hi _ _ _ b2, b3⟩
theorem hd_wA {A : Nat → Prop} {ad : KN → Nat} {Ks : List KN} (hd : Hd A ad Ks) (sz : Nat) : Hd (wA ad Ks sz) ad Ks := ⟨hd.1, hd.2.1, fun k hk => Or.inl ⟨k, hk, rfl⟩⟩
section ENDS
variable {l : Launch} {y : MethodName} {cc : ByteArray} {maxL lv mc ms : Nat} {ret : Option FieldType} {A : Nat → Prop} {D : va_G} {tc : TC} {dz : Nat} {ad : KN → Nat} {Ks : List KN} {st st1 : KN → va_E} {av : List Value}
theorem gi_imp {P P1 : Int32 → WS → Prop} (h : GI l y cc maxL ret lv mc ms D tc dz ad Ks st av P) (hi : ∀ r u, P r u → P1 r u) : GI l y cc maxL ret lv mc ms D tc dz ad Ks st av P1 := fun sz => met_imp (h sz) (fun a st o t q => by
  obtain ⟨⟨r, u, q1, q2, q3⟩, q4⟩ := q
  exact ⟨⟨r, u, q1, hi _ _ q2, q3⟩, q4⟩)
theorem gi_of_mi (hd : Hd A ad Ks) {r : Int32} (h : MI l y cc maxL ret lv D tc dz ad Ks st av r st1) : GI l y cc maxL ret lv 0 0 D tc dz ad Ks st av (fun x u => x = r ∧ u = (ad, Ks, st1)) := fun sz => met_imp (h sz) (fun a st o t q => by
  obtain ⟨⟨x, u, q1, q2, q3⟩, q4⟩ := q
  exact ⟨⟨x, (ad, Ks, st1), q1, ⟨q2, rfl⟩, q3, hd_wA hd sz⟩, q4⟩)
theorem gx_imp {E : String} {P P1 : WS → Prop} (h : GX l y cc maxL ret lv mc ms D tc dz ad Ks st av E P) (hi : ∀ u, P u → P1 u) : GX l y cc maxL ret lv mc ms D tc dz ad Ks st av E P1 := fun sz => xmet_imp (h sz) (fun E st t q => by
  obtain ⟨u, q1, q2⟩ := q
  exact ⟨u, hi _ q1, q2⟩)
theorem gx_of_mx (hd : Hd A ad Ks) {E : String} (h : MX l y cc maxL ret lv D tc dz ad Ks st av E) : GX l y cc maxL ret lv 1 6 D tc dz ad Ks st av E (fun u => u = (ad, Ks, st)) := fun sz => xmet_imp (h sz) (fun E st t q => by
  obtain ⟨u, q1, ⟨q2, q3⟩, q4⟩ := q
  exact ⟨(ad, Ks, _), rfl, ⟨q2, q3, hd_wA hd sz⟩, q4⟩)
variable {gm : GM} {I I1 : Mem}
theorem go_of_mi (hd : Hd A ad Ks) (hL : LV gm Ks) (hW : LW gm Ks) (hG2 : GM2 gm) {r : Int32} (h : MI l y cc maxL ret lv D tc dz ad Ks st av r (lay tc ad gm dz I1)) : GI l y cc maxL ret lv 0 0 D tc dz ad Ks st av (fun x u => OutW tc dz ad Ks (fun gm2 I2 => x = r ∧ gm2 = gm ∧ I2 = I1) u) := gi_imp (gi_of_mi hd h) (fun x u q => by
  obtain ⟨q1, q2⟩ := q
  subst q2
  exact (OutW.same hL hW hG2).imp (fun _ _ q => ⟨q1, q⟩))
theorem gox_of_mx (hd : Hd A ad Ks) (hL : LV gm Ks) (hW : LW gm Ks) (hG2 : GM2 gm) {E : String} (h : MX l y cc maxL ret lv D tc dz ad Ks (lay tc ad gm dz I) av E) : GX l y cc maxL ret lv 1 6 D tc dz ad Ks (lay tc ad gm dz I) av E (OutW tc dz ad Ks (fun gm2 I2 => gm2 = gm ∧ I2 = I)) := gx_imp (gx_of_mx hd h) (fun u q => by
  subst q
  exact OutW.same hL hW hG2)
/-- the law's own methods -/
def GH (l : Launch) (y : MethodName) (cc : ByteArray) (maxL : Nat) (hh : List (Nat × Nat × Nat × Nat)) (mc ms : Nat) (D : va_G) (tc : TC) (dz : Nat) (ad : KN → Nat) (Ks : List KN) (st : KN → va_E) (av : List Value) (P : Int32 → WS → Prop) : Prop :=
  ∀ sz : Nat, Met l y (wsH y cc maxL (some .int) hh) (rmL 12 mc ms) (va_Pc av (PreW D tc dz ad Ks st sz)) (va_Qi P (wsB D ad Ks sz) (wA ad Ks sz)) mc ms (wA ad Ks sz)
theorem gh_imp {hh : List (Nat × Nat × Nat × Nat)} {P P1 : Int32 → WS → Prop} (h : GH l y cc maxL hh mc ms D tc dz ad Ks st av P) (hi : ∀ r u, P r u → P1 r u) : GH l y cc maxL hh mc ms D tc dz ad Ks st av P1 := fun sz => met_imp (h sz) (fun a st o t q => by
  obtain ⟨⟨r, u, q1, q2, q3⟩, q4⟩ := q
  exact ⟨⟨r, u, q1, hi _ _ q2, q3⟩, q4⟩)
end ENDS
section XDONE
variable {p : Program} {l : Launch} {e : Env} {R : Room} {s : State} {m : MethodId} {args : Array Value} {below : List Frame} {meth : Method} {c : Code} {H : Heap} {locs : List Loc} {cells slots : Nat} {Q : State → Prop}
variable {cc : ByteArray} {own : String} {nL : Nat} {D : va_G} {tc : TC} {dz : Nat} {A : Nat → Prop} {ad : KN → Nat} {Ks : List KN} {st : KN → va_E} {pc mc ms : Nat} {ls : Array Slot} {rest : List Value}
/-- behind a call that is sure to throw E, over a world that may have grown -/
theorem g_xdone (X : Cx p s m args meth c cc own nL D tc dz A) (h : Sx D A ad Ks st s H locs) {E : String} {P : WS → Prop} {st0 : List Value} (hr : vx_Run p l e R s m args below meth c H locs cells slots mc ms (F0 m pc ls st0) rest (fun _ _ _ => False) (xXG E D ad Ks H.size P) (wA ad Ks H.size))
    (kx : ∀ (ce : Cell) (q9 : Addr) (u : WS) (H1 : Heap) (locs1 : List Loc), P u → Sx D A u.1 u.2.1 u.2.2 s H1 locs1 → H1[q9]? = some ce → ce.vm = .none → s.vm.findClass E = some ce.cls → vx_W p l e R s m args below meth c H1 locs1 (cells + mc) (slots + ms) Q (F0 m pc ls rest) q9) : W p l e R s m args below meth c H locs cells slots Q (F0 m pc ls st0) := by
  have hA := wA_sub h.2.1 h.2.2 X.2.2.2.2.2
  intro T hT X0
  rcases hr T hT X0 with ⟨v, st₀, t, T', L, h0, X', hL, e1, e2, hF, -⟩ | ⟨q, st₀, t, T', L, E1, ce, h0, X', hL, e1, e2, ⟨u, hp, hb, hF⟩, hce, hcv, hcl, st2⟩
  · exact hF.elim
  · obtain ⟨k1, k2, k3⟩ := vx_keep h0 e1 h.2.2 (fun q _ hq => hA q hq) hA hL hF
    obtain ⟨rfl, hw, hd⟩ := hb
    obtain ⟨t2, a1, b1⟩ := kx ce q u T'.heap (locs ++ L) hp ⟨hw.onto e1, hd.mono hA, k3⟩ (by rw [e1]; exact hce) hcv hcl T' rfl X'
    exact ⟨t2, st2.trans a1, b1⟩
/-- caught: the first row that takes E; the rows ahead name others -/
theorem g_catch (X : Cx p s m args meth c cc own nL D tc dz A) {E : String} {ce : Cell} {q : Addr} (pre : List ExceptionTableEntry) (x : ExceptionTableEntry) (suf : List ExceptionTableEntry) (hsplit : c.exceptionTable.toList = pre ++ x :: suf)
    (hpass : ∀ z ∈ pre, z.catchType ≠ 0 ∧ ∃ nm : String, Cond.classLink own z.catchType nm ∈ AW ∧ (E, nm) ∈ ncL) (hx : ExceptionTableEntry.startPc x ≤ pc ∧ pc < x.endPc) (h0 : x.catchType ≠ 0)
    (hlink : Cond.classLink own x.catchType E ∈ AW) (hcast : Cond.castable E E ∈ lw_tbl) (hcell : H[q]? = some ce) (hv : ce.vm = .none) (hcl : s.vm.findClass E = some ce.cls)
    (kk : W p l e R s m args below meth c H locs cells slots Q (F0 m x.handlerPc ls [.ref q])) : vx_W p l e R s m args below meth c H locs cells slots Q (F0 m pc ls rest) q := by
  obtain ⟨⟨hx9, hb, hml, hown, hts⟩, -, hK, hN, -⟩ := X
  refine vx_catch (name := E) hown pre x suf hsplit (fun z hz => ?_) ?_ h0 (hts _ hlink) (va_Nw.use rfl (hN.2.1 _ _ hcast)) hcell hv hcl kk
  · obtain ⟨a, nm, b1, b2⟩ := hpass z hz
    exact Or.inr ⟨a, nm, hts _ b1, hN.2.2.2.2.2.2 _ b2⟩
  · unfold covers
    simp [hx.1, hx.2]
end XDONE
section LAWRUN
variable {p : Program} {l : Launch} {e : Env} {R : Room} {s : State} {m : MethodId} {args : Array Value} {below : List Frame} {meth : Method} {c : Code} {H : Heap} {locs : List Loc} {cells slots : Nat} {Q : State → Prop}
variable {cc : ByteArray} {own : String} {nL : Nat} {D : va_G} {tc : TC} {dz : Nat} {A : Nat → Prop} {ad : KN → Nat} {Ks : List KN} {st : KN → va_E} {pc : Nat} {ls : Array Slot} {rest : List Value}
variable {y : MethodName} {bytes : ByteArray} {maxL n lv mc ms index : Nat} {As : List Value} {Qc : Array Value → State → Outcome → State → Prop} {free : Addr → Prop}
/-- a static call of a method with handlers -/
theorem x_runSH {hh : List (Nat × Nat × Nat × Nat)} (X : Cx p s m args meth c cc own nL D tc dz A) (h : Sx D A ad Ks st s H locs) (hM : Met l y (wsH y bytes maxL (some .int) hh) (rmL lv mc ms) (va_Pc As (PreW D tc dz ad Ks st H.size)) Qc mc ms free) (w0 : Cond.codeWith y bytes maxL (some .int) hh ∈ AW) (wi : Cond.initialized y.cls ∈ AW) (w1 : Cond.methodLink own index y ∈ AW) (w2 : Cond.static y ∈ AW)
    (hd : y.cls ≠ "java/lang/invoke/MethodHandle" ∧ y.cls ≠ "java/lang/invoke/VarHandle" ∧ (parseMethodDescriptor y.desc).map (fun d => d.parameters.length) = some n) (hn : As.length = n) (hf : lv + 1 ≤ R.frames) (hlo : 8 + (maxL + 11) + 32 * lv ≤ R.locals) (hcl : cells + mc ≤ R.cells ∧ slots + ms ≤ R.slots) (hsize : ls.size = nL) (hcat : (rest.map fun v => v.category).sum ≤ 8) (hdg : decode cc pc = .ok (.invokestatic index, 3)) {st0 : List Value} (hst : st0 = As.reverse ++ rest) :
    va_Run p l e R s m args below meth c H locs cells slots mc ms (F0 m pc ls st0) rest (Qc As.toArray) free := by
  have hT : GoodIn AW (va_wsS own index y (wsH y bytes maxL (some .int) hh)) := fun w hw => by
    have hw2 : w ∈ AW := by
      unfold va_wsS at hw
      rcases List.mem_append.mp hw with q | q
      · rcases List.mem_cons.mp q with rfl | q
        · exact w1
        · rcases List.mem_cons.mp q with rfl | q
          · exact w2
          · rw [List.mem_singleton.mp q]; exact wi
      · rcases List.mem_cons.mp q with rfl | q
        · exact w0
        · exact q
    exact ⟨hw2, AW_good hw2⟩
  exact vx_runSW (hh := hh) X.1 hM (vx_cwSW n X.1.2.2.2.2 hT rfl rfl rfl hd ⟨hf, hlo⟩) ⟨PreW.blind, fun U hU hW => ⟨rfl, PreW.of X h U hU hW⟩⟩ rfl hn hsize hst (lv_room hcat) hdg hcl
end LAWRUN
/-- how many Mark objects there are -/
def SG (gm : GM) : Nat := sumN (fun e => (gm 0 e).1) 10 + sumN (fun e => (gm 1 e).1) 10
