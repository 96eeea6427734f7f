/-! the law's own methods: bodies with handlers -/
abbrev wsH (y : MethodName) (cc : ByteArray) (maxL : Nat) (ret : Option FieldType) (hh : List (Nat × Nat × Nat × Nat)) : List Cond := Cond.codeWith y cc maxL ret hh :: AW
theorem x_ofH {l : Launch} {y : MethodName} {cc : ByteArray} {maxL : Nat} {ret : Option FieldType} {hh : List (Nat × Nat × Nat × Nat)} {rm : Room} {av : List Value} {Qc : Array Value → State → Outcome → State → Prop} {mc ms : Nat} {free : Addr → Prop} {D : va_G} {tc : TC} {dz : Nat} {ad : KN → Nat} {Ks : List KN} {st : KN → va_E} {sz : Nat}
    (hy : plainName y.cls = true) (hav : (lg_sl av).length ≤ maxL)
    (body : ∀ (p : Program) (e : Env) (s : State) (m : MethodId) (below : List Frame) (meth : Method) (c : Code) (ls : Array Slot), Cx p s m av.toArray meth c cc y.cls maxL D tc dz (wA ad Ks s.heap.size) → meth.sig.returnType = ret → c.exceptionTable.toList = tableOf hh → s.heap.size = sz → Sx D (wA ad Ks s.heap.size) ad Ks st s s.heap [] → lv_has ls maxL (lv_args 0 av) →
      W p l e rm s m av.toArray below meth c s.heap [] 0 0 (MQ below Qc av.toArray s mc ms free) (F0 m 0 ls [])) :
    Met l y (wsH y cc maxL ret hh) rm (va_Pc av (PreW D tc dz ad Ks st sz)) Qc mc ms free := by
  refine MetFree.of_bodyS (code := cc) (maxLocals := maxL) (ret := ret) hy ?_ ?_
  · intro args s m h hn
    obtain ⟨m9, meth, c, hn9, h1, h2, h3, h4, -, h5, h6, -⟩ := Cond.codeWith_spec (atoms_spec (ws := wsH y cc maxL ret hh) h _ List.mem_cons_self)
    cases hn.symm.trans hn9
    exact ⟨meth, c, h1, h2, h3, h4, h5, h6⟩
  · intro p e s m args below meth c s₁ B hml hv _
    have hh0 : s₁.heap = s.heap := by rw [B.state]; rfl
    obtain ⟨rfl, hsz, hw, hd, hK, hN, hZ⟩ := hv
    have hts0 := atoms_spec (ws := wsH y cc maxL ret hh) B.pre
    have hown : s.vm.findClass y.cls = some m.cls := findClass_of_methodNamed B.named
    have htab := vx_table (x := y) B (hts0 _ List.mem_cons_self)
    subst hsz
    have k := body p e s m below meth c _ ⟨⟨B.exec, B.bytes, hml, hown, fun w hw => hts0 w (List.mem_cons_of_mem _ hw)⟩, B.notSynchronized, hK, hN, hZ, fun q h => Or.inr h⟩ B.returns htab rfl ⟨hw, ⟨hd.1, hd.2.1, fun k hk => Or.inl ⟨k, hk, rfl⟩⟩, va_S.rf⟩ (lv_entry av hav)
    rw [← lg_entry_eq] at k
    obtain ⟨t, a1, o, b1, b2, b3⟩ := k s₁ hh0 (Stand.of_body B)
    exact ⟨t, o, a1, b1, b2, b3⟩
section OUT
variable {p : Program} {l : Launch} {e : Env} {R : Room} {s : State} {m : MethodId} {args : Array Value} {below : List Frame} {meth : Method} {c : Code} {H : Heap} {locs : List Loc} {cells slots : Nat} {Q : State → Prop}
variable {cc : ByteArray} {own : String} {nL : Nat} {D : va_G} {tc : TC} {dz : Nat} {A : Nat → Prop} {ad ad0 : KN → Nat} {Ks Ks0 : List KN} {gm : GM} {I : Mem} {st : KN → va_E} {pc : Nat} {ls : Array Slot} {rest : List Value}
/-- the out rows: an answer written, an answer read -/
theorem o_last (X : Cx p s m args meth c cc own nL D tc dz A) (h : Sx D A ad Ks (lay tc ad gm dz I) s H locs) (hk : (50, 0, 0, 0) ∈ Ks) {v : Int32} (hdg : decode cc pc = .ok (.lastore, 1))
    (kk : ∀ (H1 : Heap) (locs1 : List Loc), Sx D A ad Ks (lay tc ad gm dz (sset I (50, 0, 0, 0) (upd (I (50, 0, 0, 0)) 0 v))) s H1 locs1 → W p l e R s m args below meth c H1 locs1 cells slots Q (F0 m (pc + 1) ls rest)) : W p l e R s m args below meth c H locs cells slots Q (F0 m pc ls (.long v.toInt64 :: .int (nI 0) :: .ref (ad (50, 0, 0, 0)) :: rest)) := by
  obtain ⟨⟨hx, hb, -, hown, hts⟩, -, hK, -⟩ := X
  obtain ⟨i, hi⟩ := List.getElem?_of_mem hk
  have hi2 := wl_at (ad := ad) (st := lay tc ad gm dz I) hi
  rw [show lay tc ad gm dz I (50, 0, 0, 0) = .inl (tc 2, 1, .inr (.inl (fun j => (I (50, 0, 0, 0) j).toInt64))) from rfl] at hi2
  refine va_last hx hb hK h.1.P (h.2.1.Dw _) h.2.2 i 2 hi2 rfl (vp_in_nI (by decide) (by decide)) hdg (fun H1 locs1 hP _ hS => ?_)
  rw [show (nI 0).toNatClampNeg = 0 from nI_clamp (by decide)] at hP
  have e0 : vp_updL (fun j => (I (50, 0, 0, 0) j).toInt64) 0 v.toInt64 = fun j => (upd (I (50, 0, 0, 0)) 0 v j).toInt64 := by
    funext j
    show (if j = 0 then v.toInt64 else (I (50, 0, 0, 0) j).toInt64) = _
    by_cases q : j = 0
    · rw [if_pos q, q, ud_eq]
    · rw [if_neg q, ud_ne _ _ q]
  rw [e0] at hP
  exact kk H1 locs1 (Sx.layI ⟨Hw.set h.2.1.1 hi hP, h.2.1, hS⟩ rfl)
theorem o_lald (X : Cx p s m args meth c cc own nL D tc dz A) (h : Sx D A ad Ks (lay tc ad gm dz I) s H locs) (hk : (50, 0, 0, 0) ∈ Ks) (hdg : decode cc pc = .ok (.laload, 1))
    (kk : W p l e R s m args below meth c H locs cells slots Q (F0 m (pc + 1) ls (.long (I (50, 0, 0, 0) 0).toInt64 :: rest))) : W p l e R s m args below meth c H locs cells slots Q (F0 m pc ls (.int (nI 0) :: .ref (ad (50, 0, 0, 0)) :: rest)) := by
  obtain ⟨⟨hx, hb, -, hown, hts⟩, -, hK, -⟩ := X
  obtain ⟨i, hi⟩ := List.getElem?_of_mem hk
  have hi2 := wl_at (ad := ad) (st := lay tc ad gm dz I) hi
  rw [show lay tc ad gm dz I (50, 0, 0, 0) = .inl (tc 2, 1, .inr (.inl (fun j => (I (50, 0, 0, 0) j).toInt64))) from rfl] at hi2
  exact va_lald hx hb hK h.1.P i 2 hi2 rfl (vp_in_nI (by decide) (by decide)) hdg (by rw [show (nI 0).toNatClampNeg = 0 from nI_clamp (by decide)]; exact kk)
theorem o_dast (X : Cx p s m args meth c cc own nL D tc dz A) (h : Sx D A ad Ks (lay tc ad gm dz I) s H locs) (hk : (51, 0, 0, 0) ∈ Ks) {v : UInt32} (hdg : decode cc pc = .ok (.dastore, 1))
    (kk : ∀ (H1 : Heap) (locs1 : List Loc), Sx D A ad Ks (lay tc ad gm dz (sset I (51, 0, 0, 0) (upd (I (51, 0, 0, 0)) 0 v.toInt32))) s H1 locs1 → W p l e R s m args below meth c H1 locs1 cells slots Q (F0 m (pc + 1) ls rest)) : W p l e R s m args below meth c H locs cells slots Q (F0 m pc ls (.double (FP.f2d v) :: .int (nI 0) :: .ref (ad (51, 0, 0, 0)) :: rest)) := by
  obtain ⟨⟨hx, hb, -, hown, hts⟩, -, hK, -⟩ := X
  obtain ⟨i, hi⟩ := List.getElem?_of_mem hk
  have hi2 := wl_at (ad := ad) (st := lay tc ad gm dz I) hi
  rw [show lay tc ad gm dz I (51, 0, 0, 0) = .inl (tc 3, 1, .inr (.inr (.inr (.inl (fun j => FP.f2d (I (51, 0, 0, 0) j).toUInt32))))) from rfl] at hi2
  refine va_dast hx hb hK h.1.P (h.2.1.Dw _) h.2.2 i 3 hi2 rfl (vp_in_nI (by decide) (by decide)) hdg (fun H1 locs1 hP _ hS => ?_)
  rw [show (nI 0).toNatClampNeg = 0 from nI_clamp (by decide)] at hP
  have e0 : vf_upd (fun j => FP.f2d (I (51, 0, 0, 0) j).toUInt32) 0 (FP.f2d v) = fun j => FP.f2d (upd (I (51, 0, 0, 0)) 0 v.toInt32 j).toUInt32 := by
    funext j
    show (if j = 0 then FP.f2d v else FP.f2d (I (51, 0, 0, 0) j).toUInt32) = _
    by_cases q : j = 0
    · rw [if_pos q, q, ud_eq]
      exact congrArg FP.f2d (by simp)
    · rw [if_neg q, ud_ne _ _ q]
  rw [e0] at hP
  exact kk H1 locs1 (Sx.layI ⟨Hw.set h.2.1.1 hi hP, h.2.1, hS⟩ rfl)
theorem o_dald (X : Cx p s m args meth c cc own nL D tc dz A) (h : Sx D A ad Ks (lay tc ad gm dz I) s H locs) (hk : (51, 0, 0, 0) ∈ Ks) (hdg : decode cc pc = .ok (.daload, 1))
    (kk : W p l e R s m args below meth c H locs cells slots Q (F0 m (pc + 1) ls (.double (FP.f2d (I (51, 0, 0, 0) 0).toUInt32) :: rest))) : W p l e R s m args below meth c H locs cells slots Q (F0 m pc ls (.int (nI 0) :: .ref (ad (51, 0, 0, 0)) :: rest)) := by
  obtain ⟨⟨hx, hb, -, hown, hts⟩, -, hK, -⟩ := X
  obtain ⟨i, hi⟩ := List.getElem?_of_mem hk
  have hi2 := wl_at (ad := ad) (st := lay tc ad gm dz I) hi
  rw [show lay tc ad gm dz I (51, 0, 0, 0) = .inl (tc 3, 1, .inr (.inr (.inr (.inl (fun j => FP.f2d (I (51, 0, 0, 0) j).toUInt32))))) from rfl] at hi2
  exact va_dald hx hb hK h.1.P i 3 hi2 rfl (vp_in_nI (by decide) (by decide)) hdg (by rw [show (nI 0).toNatClampNeg = 0 from nI_clamp (by decide)]; exact kk)
end OUT
