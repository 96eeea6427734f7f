/-! The whole world of a call: cells by NAMES. ad: where the cell of a name lies; st: what it holds; Ks: the names that live. -/
abbrev KN : Type := Nat × Nat × Nat × Nat
abbrev TC : Type := Nat → ClassId
abbrev tysOf (tc : TC) : List (ClassId × FieldType) := [(tc 0, .int), (tc 1, .int), (tc 2, .long), (tc 3, .long), (tc 4, .object "BraidBook$Entry"), (tc 5, .object "BraidBook$Copy"), (tc 6, .object "java/lang/Object")]
def sset {α : Type} (st : KN → α) (k : KN) (e : α) : KN → α := fun k' => if k' = k then e else st k'
theorem sset_eq {α : Type} (st : KN → α) (k : KN) (e : α) : sset st k e k = e := by simp [sset]
theorem sset_ne {α : Type} (st : KN → α) {k k' : KN} (e : α) (h : k' ≠ k) : sset st k e k' = st k' := by simp [sset, h]
def Hw (D : va_G) (ad : KN → Nat) (Ks : List KN) (st : KN → va_E) (H : Heap) : Prop := ∀ k, k ∈ Ks → va_at D vwCl (ad k, st k) H
def Hd (A : Nat → Prop) (ad : KN → Nat) (Ks : List KN) : Prop := Ks.Nodup ∧ (∀ k, k ∈ Ks → ∀ k', k' ∈ Ks → ad k = ad k' → k = k') ∧ ∀ k, k ∈ Ks → A (ad k)
def wA (ad : KN → Nat) (Ks : List KN) (sz : Nat) : Nat → Prop := fun q => (∃ k, k ∈ Ks ∧ q = ad k) ∨ sz ≤ q
abbrev wl (ad : KN → Nat) (Ks : List KN) (st : KN → va_E) : va_W := Ks.map (fun k => (ad k, st k))
theorem wl_get {ad : KN → Nat} {Ks : List KN} {st : KN → va_E} {i : Nat} {q : Nat × va_E} (h : (wl ad Ks st)[i]? = some q) : ∃ k, Ks[i]? = some k ∧ q = (ad k, st k) := by
  rw [List.getElem?_map] at h
  cases hk : Ks[i]? with
  | none => rw [hk] at h; cases h
  | some k => rw [hk] at h; cases h; exact ⟨k, rfl, rfl⟩
theorem wl_at {ad : KN → Nat} {Ks : List KN} {st : KN → va_E} {i : Nat} {k : KN} (h : Ks[i]? = some k) : (wl ad Ks st)[i]? = some (ad k, st k) := by
  rw [List.getElem?_map, h]; rfl
theorem Hw.P {D : va_G} {ad : KN → Nat} {Ks : List KN} {st : KN → va_E} {H : Heap} (h : Hw D ad Ks st H) : va_P D vwCl (wl ad Ks st) H := by
  intro i q hi
  obtain ⟨k, h1, rfl⟩ := wl_get hi
  exact h k (List.mem_of_getElem? h1)
theorem Hw.ofP {D : va_G} {ad : KN → Nat} {Ks : List KN} {st : KN → va_E} {H : Heap} (h : va_P D vwCl (wl ad Ks st) H) : Hw D ad Ks st H := by
  intro k hk
  obtain ⟨i, hi⟩ := List.getElem?_of_mem hk
  exact h i _ (wl_at hi)
theorem nodup_at {Ks : List KN} (hn : Ks.Nodup) {i j : Nat} {k : KN} (h1 : Ks[i]? = some k) (h2 : Ks[j]? = some k) : i = j := by
  have l1 := (List.getElem?_eq_some_iff.mp h1).1
  exact (List.getElem?_inj l1 hn).mp (h1.trans h2.symm)
theorem Hd.Dw {A : Nat → Prop} {ad : KN → Nat} {Ks : List KN} (st : KN → va_E) (h : Hd A ad Ks) : va_D A (wl ad Ks st) := by
  refine ⟨fun i j p q hi hj e => ?_, fun i q hi => ?_⟩
  · obtain ⟨k, h1, rfl⟩ := wl_get hi
    obtain ⟨k', h2, rfl⟩ := wl_get hj
    have := h.2.1 k (List.mem_of_getElem? h1) k' (List.mem_of_getElem? h2) e
    subst this
    exact nodup_at h.1 h1 h2
  · obtain ⟨k, h1, rfl⟩ := wl_get hi
    exact h.2.2 k (List.mem_of_getElem? h1)
theorem Hw.congr {D : va_G} {ad : KN → Nat} {Ks : List KN} {st st' : KN → va_E} {H : Heap} (h : Hw D ad Ks st H) (e : ∀ k, k ∈ Ks → st k = st' k) : Hw D ad Ks st' H := fun k hk => by rw [← e k hk]; exact h k hk
/-- one cell written -/
theorem Hw.set {D : va_G} {ad : KN → Nat} {Ks : List KN} {st : KN → va_E} {H1 : Heap} {i : Nat} {k : KN} {e : va_E} (hn : Ks.Nodup) (hi : Ks[i]? = some k) (h : va_P D vwCl ((wl ad Ks st).set i (ad k, e)) H1) : Hw D ad Ks (sset st k e) H1 := by
  intro k' hk'
  obtain ⟨j, hj⟩ := List.getElem?_of_mem hk'
  have hl : i < (wl ad Ks st).length := (List.getElem?_eq_some_iff.mp (wl_at (ad := ad) (st := st) hi)).1
  by_cases hji : j = i
  · subst hji
    cases hi.symm.trans hj
    rw [sset_eq]
    exact h j _ (List.getElem?_set_self hl)
  · have hkk : k' ≠ k := fun z => hji (nodup_at hn (z ▸ hj) hi)
    rw [sset_ne _ _ hkk]
    exact h j _ (by rw [List.getElem?_set_ne (Ne.symm hji)]; exact wl_at hj)
/-- one cell made -/
theorem Hw.push {D : va_G} {ad : KN → Nat} {Ks : List KN} {st : KN → va_E} {H1 : Heap} {k : KN} {q : Nat} {e : va_E} (hk : k ∉ Ks) (h : va_P D vwCl (wl ad Ks st ++ [(q, e)]) H1) : Hw D (sset ad k q) (k :: Ks) (sset st k e) H1 := by
  intro k' hk'
  by_cases hkk : k' = k
  · subst hkk
    rw [sset_eq, sset_eq]
    have : (wl ad Ks st ++ [(q, e)])[(wl ad Ks st).length]? = some (q, e) := by simp
    exact h _ _ this
  · rw [sset_ne _ _ hkk, sset_ne _ _ hkk]
    have hm : k' ∈ Ks := (List.mem_cons.mp hk').resolve_left hkk
    obtain ⟨j, hj⟩ := List.getElem?_of_mem hm
    have h1 := wl_at (ad := ad) (st := st) hj
    exact h j _ (by rw [List.getElem?_append_left (List.getElem?_eq_some_iff.mp h1).1]; exact h1)
theorem Hd.push {A : Nat → Prop} {ad : KN → Nat} {Ks : List KN} {st : KN → va_E} {k : KN} {q : Nat} {e : va_E} (hd : Hd A ad Ks) (hk : k ∉ Ks) (h : va_D A (wl ad Ks st ++ [(q, e)])) : Hd A (sset ad k q) (k :: Ks) := by
  have hq : (wl ad Ks st ++ [(q, e)])[(wl ad Ks st).length]? = some (q, e) := by simp
  have old : ∀ k', k' ∈ Ks → k' ≠ k ∧ ad k' ≠ q := by
    intro k' hm
    refine ⟨fun z => hk (z ▸ hm), fun z => ?_⟩
    obtain ⟨j, hj⟩ := List.getElem?_of_mem hm
    have h1 := wl_at (ad := ad) (st := st) hj
    have hl := (List.getElem?_eq_some_iff.mp h1).1
    have h2 : (wl ad Ks st ++ [(q, e)])[j]? = some (ad k', st k') := by rw [List.getElem?_append_left hl]; exact h1
    have := h.1 _ _ _ _ h2 hq z
    omega
  refine ⟨List.nodup_cons.mpr ⟨hk, hd.1⟩, fun k1 h1 k2 h2 e12 => ?_, fun k1 h1 => ?_⟩
  · rcases List.mem_cons.mp h1 with g1 | g1 <;> rcases List.mem_cons.mp h2 with g2 | g2
    · rw [g1, g2]
    · rw [g1, sset_eq, sset_ne _ _ (old _ g2).1] at e12
      exact absurd e12.symm (old _ g2).2
    · rw [g2, sset_eq, sset_ne _ _ (old _ g1).1] at e12
      exact absurd e12 (old _ g1).2
    · rw [sset_ne _ _ (old _ g1).1, sset_ne _ _ (old _ g2).1] at e12
      exact hd.2.1 _ g1 _ g2 e12
  · rcases List.mem_cons.mp h1 with rfl | h1
    · rw [sset_eq]; exact h.2 _ _ hq
    · rw [sset_ne _ _ (old _ h1).1]; exact hd.2.2 _ h1
/-- what the tables say beyond the good words, at a state -/
abbrev exI : String := "java/lang/IndexOutOfBoundsException"
abbrev exA : String := "java/lang/IllegalArgumentException"
abbrev exS : String := "java/lang/IllegalStateException"
abbrev ncL : List (String × String) := [(exI, exA), (exI, exS), (exA, exI), (exA, exS), (exS, exI), (exS, exA)]
def NW (s : State) : Prop := (∀ a i x h, Cond.methodLinkNest a i x h ∈ lw_tbl → va_Nw (.methodLinkNest a i x h) s) ∧ (∀ C T, Cond.castable C T ∈ lw_tbl → va_Nw (.castable C T) s) ∧ (∀ x, Cond.declares x ∈ lw_tbl → va_Nw (.declares x) s) ∧ (∀ own k tx, Cond.stringRef own k tx ∈ lw_tbl → ∃ a, vk_R own k tx a s) ∧ (∀ C, Cond.arrayOver (.object C) ∈ lw_tbl → va_AO C s) ∧ (∃ mi, va_Mi "[Ljava/lang/Object;" mi s) ∧ ∀ q, q ∈ ncL → va_Nc q.1 q.2 s
theorem NW.warm {s U : State} (hW : s.WarmedH U.vm) (h : NW s) : NW U := ⟨fun a i x h9 m => va_Nw.warmM hW (h.1 a i x h9 m), fun C T m => va_Nw.warmC hW (h.2.1 C T m), fun x m => va_Nw.warmD hW (h.2.2.1 x m), fun own k tx m => by obtain ⟨a, ha⟩ := h.2.2.2.1 own k tx m; exact ⟨a, vk_R.warm hW ha⟩, fun C m => va_AO.moved hW.alike (h.2.2.2.2.1 C m), by obtain ⟨mi, hm⟩ := h.2.2.2.2.2.1; exact ⟨mi, va_Mi.moved hW.alike hm⟩, fun q hq => va_Nc.moved hW.alike (h.2.2.2.2.2.2 q hq)⟩
/-- the statics that the class's throws and its lists read, and the empty array of lists, at dz -/
def ZS (dz : Nat) (A : Nat → Prop) (U : State) (H : Heap) : Prop := vx_Zq Bundle.tN "UNASSIGNED_STACK" Bundle.steD A U H ∧ vx_Zq Bundle.tN "SUPPRESSED_SENTINEL" Bundle.listD A U H ∧ va_Z "java/util/ArrayList" "DEFAULTCAPACITY_EMPTY_ELEMENTDATA" "[Ljava/lang/Object;" (.ref dz) A U H ∧ va_T (.object "java/lang/Object") dz 0 (fun _ => .null) A U H
theorem ZS.moved {dz : Nat} {A : Nat → Prop} {u U : State} {H : Heap} (hvm : u.vm.Alike U.vm) (h : ZS dz A u H) : ZS dz A U H := ⟨vx_Zq.moved hvm h.1, vx_Zq.moved hvm h.2.1, va_Z.moved hvm h.2.2.1, va_T.moved hvm h.2.2.2⟩
theorem ZS.kept {dz : Nat} {A : Nat → Prop} {U : State} {H H1 : Heap} (h : ZS dz A U H) (hq : ∀ a : Nat, a < H.size → ¬ A a → H1[a]? = H[a]?) : ZS dz A U H1 := ⟨vx_Zq.kept h.1 hq, vx_Zq.kept h.2.1 hq, va_Z.kept h.2.2.1 hq, va_T.kept h.2.2.2 hq⟩
theorem ZS.narrow {dz : Nat} {A B : Nat → Prop} {U : State} {H : Heap} (h : ZS dz A U H) (hAB : ∀ q, B q → A q) : ZS dz B U H := ⟨vx_Zq.narrow h.1 hAB, vx_Zq.narrow h.2.1 hAB, va_Z.narrow h.2.2.1 hAB, va_T.narrow h.2.2.2 hAB⟩
/-- the frame of a method: fixed facts -/
def Cx (p : Program) (s : State) (m : MethodId) (args : Array Value) (meth : Method) (c : Code) (cc : ByteArray) (own : String) (nL : Nat) (D : va_G) (tc : TC) (dz : Nat) (A : Nat → Prop) : Prop :=
  CallFix p m c cc nL s args AW own ∧ meth.locks = false ∧ va_K D vwCl (tysOf tc) s ∧ NW s ∧ ZS dz A s s.heap ∧ ∀ q : Nat, s.heap.size ≤ q → A q
/-- the world at a heap -/
def Sx (D : va_G) (A : Nat → Prop) (ad : KN → Nat) (Ks : List KN) (st : KN → va_E) (s : State) (H : Heap) (locs : List Loc) : Prop := Hw D ad Ks st H ∧ Hd A ad Ks ∧ va_S A s.heap H locs
theorem Sx.congr {D : va_G} {A : Nat → Prop} {ad : KN → Nat} {Ks : List KN} {st st' : KN → va_E} {s : State} {H : Heap} {locs : List Loc} (h : Sx D A ad Ks st s H locs) (e : ∀ k, k ∈ Ks → st k = st' k) : Sx D A ad Ks st' s H locs := ⟨h.1.congr e, h.2⟩
theorem Sx.eq {D : va_G} {A : Nat → Prop} {ad : KN → Nat} {Ks : List KN} {st st' : KN → va_E} {s : State} {H : Heap} {locs : List Loc} (h : Sx D A ad Ks st s H locs) (e : st = st') : Sx D A ad Ks st' s H locs := e ▸ h
/-- a contract's start -/
def PreW (D : va_G) (tc : TC) (dz : Nat) (ad : KN → Nat) (Ks : List KN) (st : KN → va_E) (sz : Nat) (U : State) : Prop :=
  U.heap.size = sz ∧ Hw D ad Ks st U.heap ∧ Hd (fun _ => True) ad Ks ∧ va_K D vwCl (tysOf tc) U ∧ NW U ∧ ZS dz (wA ad Ks sz) U U.heap
theorem PreW.blind {D : va_G} {tc : TC} {dz : Nat} {ad : KN → Nat} {Ks : List KN} {st : KN → va_E} {sz : Nat} {av : List Value} : FrameBlind (va_Pc av (PreW D tc dz ad Ks st sz)) := by
  intro a U g mk q
  obtain ⟨q0, q1, q2, q3, q4, q5, q6⟩ := q
  refine ⟨q0, q1, q2, q3, va_K.moved (u := U) (U := U.calling g mk a) (Vm.Alike.refl U.vm) q4, ⟨fun a1 i x h9 m => va_Nw.same rfl rfl (q5.1 a1 i x h9 m), fun C T m => va_Nw.same rfl rfl (q5.2.1 C T m), fun x m => va_Nw.same rfl rfl (q5.2.2.1 x m), fun own k tx m => ?_, fun C m => va_AO.moved (u := U) (U := U.calling g mk a) (Vm.Alike.refl U.vm) (q5.2.2.2.2.1 C m), ?_, fun q hq => va_Nc.moved (u := U) (U := U.calling g mk a) (Vm.Alike.refl U.vm) (q5.2.2.2.2.2.2 q hq)⟩, ZS.moved (u := U) (U := U.calling g mk a) (Vm.Alike.refl U.vm) q6⟩
  · obtain ⟨a1, ha⟩ := q5.2.2.2.1 own k tx m
    exact ⟨a1, vk_R.same (u := U) (U := U.calling g mk a) rfl ha⟩
  · obtain ⟨mi, hm⟩ := q5.2.2.2.2.2.1
    exact ⟨mi, va_Mi.moved (u := U) (U := U.calling g mk a) (Vm.Alike.refl U.vm) hm⟩
theorem wA_sub {A : Nat → Prop} {ad : KN → Nat} {Ks : List KN} {H0 H : Heap} {locs : List Loc} (hd : Hd A ad Ks) (hS : va_S A H0 H locs) (hA : ∀ q : Nat, H0.size ≤ q → A q) : ∀ q, wA ad Ks H.size q → A q := by
  intro q h
  rcases h with ⟨k, hk, rfl⟩ | h
  · exact hd.2.2 k hk
  · exact hA q (Nat.le_trans hS.1 h)
/-- a callee's start, from the caller's world -/
theorem PreW.of {p : Program} {s : State} {m : MethodId} {args : Array Value} {meth : Method} {c : Code} {cc : ByteArray} {own : String} {nL : Nat} {D : va_G} {tc : TC} {dz : Nat} {A : Nat → Prop} {ad : KN → Nat} {Ks : List KN} {st : KN → va_E} {H : Heap} {locs : List Loc}
    (X : Cx p s m args meth c cc own nL D tc dz A) (h : Sx D A ad Ks st s H locs) (U : State) (hU : U.heap = H) (hW : s.WarmedH U.vm) : PreW D tc dz ad Ks st H.size U := by
  obtain ⟨-, -, hK, hN, hZ, hA⟩ := X
  obtain ⟨h1, h2, h3⟩ := h
  refine ⟨by rw [hU], by rw [hU]; exact h1, ⟨h2.1, h2.2.1, fun _ _ => trivial⟩, va_K.moved hW.alike hK, NW.warm hW hN, ?_⟩
  rw [hU]
  exact ((hZ.kept h3.2.1).narrow (wA_sub h2 h3 hA)).moved hW.alike
/-- a callee's words: its own code first, then AW -/
abbrev wsA (y : MethodName) (cc : ByteArray) (maxL : Nat) (ret : Option FieldType) : List Cond := Cond.code y cc maxL ret :: AW
theorem AW_good {w : Cond} (h : w ∈ AW) : (w.onTables && w.keeps) = true ∨ ∃ ty, w = .arrayClass ty := good_of_word (List.mem_filter.mp h).2
theorem goodIn_A {y : MethodName} {cc : ByteArray} {maxL : Nat} {ret : Option FieldType} (h : Cond.code y cc maxL ret ∈ AW) : GoodIn AW (wsA y cc maxL ret) := fun w hw => by
  rcases List.mem_cons.mp hw with rfl | hw
  · exact ⟨h, AW_good h⟩
  · exact ⟨hw, AW_good hw⟩
/-- what a call needs to know of a method: its code among the words, its class made, its arity -/
def YF (y : MethodName) (cc : ByteArray) (maxL : Nat) (ret : Option FieldType) (n : Nat) : Prop :=
  Cond.code y cc maxL ret ∈ AW ∧ Cond.initialized y.cls ∈ AW ∧ y.cls ≠ "java/lang/invoke/MethodHandle" ∧ y.cls ≠ "java/lang/invoke/VarHandle" ∧ (parseMethodDescriptor y.desc).map (fun d => d.parameters.length) = some n
/-- room: a level for the depth of calls below -/
abbrev rmL (lv mc ms : Nat) : Room := { frames := lv, cells := mc, slots := ms, locals := 32 * lv }
